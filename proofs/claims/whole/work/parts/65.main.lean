theorem dX8_scene_0 : decode cX8_scene 0 = .ok (.iload_n 1, 1) := by decide +kernel
theorem dX8_scene_1 : decode cX8_scene 1 = .ok (.invokestatic 65, 3) := by decide +kernel
theorem dX8_scene_4 : decode cX8_scene 4 = .ok (.ifCond .eq 17, 3) := by decide +kernel
theorem dX8_scene_7 : decode cX8_scene 7 = .ok (.iload_n 2, 1) := by decide +kernel
theorem dX8_scene_8 : decode cX8_scene 8 = .ok (.invokestatic 69, 3) := by decide +kernel
theorem dX8_scene_11 : decode cX8_scene 11 = .ok (.ifCond .eq 10, 3) := by decide +kernel
theorem dX8_scene_14 : decode cX8_scene 14 = .ok (.iload_n 3, 1) := by decide +kernel
theorem dX8_scene_15 : decode cX8_scene 15 = .ok (.invokestatic 72, 3) := by decide +kernel
theorem dX8_scene_18 : decode cX8_scene 18 = .ok (.ifCond .ne 5, 3) := by decide +kernel
theorem dX8_scene_21 : decode cX8_scene 21 = .ok (.iconst 0, 1) := by decide +kernel
theorem dX8_scene_22 : decode cX8_scene 22 = .ok (.ireturn, 1) := by decide +kernel
theorem dX8_scene_23 : decode cX8_scene 23 = .ok (.aload_n 0, 1) := by decide +kernel
theorem dX8_scene_24 : decode cX8_scene 24 = .ok (.getfield 12, 3) := by decide +kernel
theorem dX8_scene_27 : decode cX8_scene 27 = .ok (.iload_n 1, 1) := by decide +kernel
theorem dX8_scene_28 : decode cX8_scene 28 = .ok (.iload_n 2, 1) := by decide +kernel
theorem dX8_scene_29 : decode cX8_scene 29 = .ok (.iload_n 3, 1) := by decide +kernel
theorem dX8_scene_30 : decode cX8_scene 30 = .ok (.invokevirtual 75, 3) := by decide +kernel
theorem dX8_scene_33 : decode cX8_scene 33 = .ok (.iconst 1, 1) := by decide +kernel
theorem dX8_scene_34 : decode cX8_scene 34 = .ok (.ireturn, 1) := by decide +kernel
theorem dX8_kind_0 : decode cX8_kind 0 = .ok (.iload_n 1, 1) := by decide +kernel
theorem dX8_kind_1 : decode cX8_kind 1 = .ok (.invokestatic 65, 3) := by decide +kernel
theorem dX8_kind_4 : decode cX8_kind 4 = .ok (.ifCond .eq 12, 3) := by decide +kernel
theorem dX8_kind_7 : decode cX8_kind 7 = .ok (.iload_n 2, 1) := by decide +kernel
theorem dX8_kind_8 : decode cX8_kind 8 = .ok (.iconst 0, 1) := by decide +kernel
theorem dX8_kind_9 : decode cX8_kind 9 = .ok (.iconst 3, 1) := by decide +kernel
theorem dX8_kind_10 : decode cX8_kind 10 = .ok (.invokestatic 79, 3) := by decide +kernel
theorem dX8_kind_13 : decode cX8_kind 13 = .ok (.ifCond .ne 5, 3) := by decide +kernel
theorem dX8_kind_16 : decode cX8_kind 16 = .ok (.iconst 0, 1) := by decide +kernel
theorem dX8_kind_17 : decode cX8_kind 17 = .ok (.ireturn, 1) := by decide +kernel
theorem dX8_kind_18 : decode cX8_kind 18 = .ok (.aload_n 0, 1) := by decide +kernel
theorem dX8_kind_19 : decode cX8_kind 19 = .ok (.getfield 12, 3) := by decide +kernel
theorem dX8_kind_22 : decode cX8_kind 22 = .ok (.getfield 83, 3) := by decide +kernel
theorem dX8_kind_25 : decode cX8_kind 25 = .ok (.iload_n 1, 1) := by decide +kernel
theorem dX8_kind_26 : decode cX8_kind 26 = .ok (.iload_n 2, 1) := by decide +kernel
theorem dX8_kind_27 : decode cX8_kind 27 = .ok (.iastore, 1) := by decide +kernel
theorem dX8_kind_28 : decode cX8_kind 28 = .ok (.iconst 1, 1) := by decide +kernel
theorem dX8_kind_29 : decode cX8_kind 29 = .ok (.ireturn, 1) := by decide +kernel
theorem dX8_person_0 : decode cX8_person 0 = .ok (.iload_n 1, 1) := by decide +kernel
theorem dX8_person_1 : decode cX8_person 1 = .ok (.invokestatic 87, 3) := by decide +kernel
theorem dX8_person_4 : decode cX8_person 4 = .ok (.ifCond .eq 10, 3) := by decide +kernel
theorem dX8_person_7 : decode cX8_person 7 = .ok (.iload_n 2, 1) := by decide +kernel
theorem dX8_person_8 : decode cX8_person 8 = .ok (.invokestatic 87, 3) := by decide +kernel
theorem dX8_person_11 : decode cX8_person 11 = .ok (.ifCond .ne 5, 3) := by decide +kernel
theorem dX8_person_14 : decode cX8_person 14 = .ok (.iconst (-1), 1) := by decide +kernel
theorem dX8_person_15 : decode cX8_person 15 = .ok (.ireturn, 1) := by decide +kernel
theorem dX8_person_16 : decode cX8_person 16 = .ok (.aload_n 0, 1) := by decide +kernel
theorem dX8_person_17 : decode cX8_person 17 = .ok (.getfield 12, 3) := by decide +kernel
theorem dX8_person_20 : decode cX8_person 20 = .ok (.iload_n 1, 1) := by decide +kernel
theorem dX8_person_21 : decode cX8_person 21 = .ok (.iload_n 2, 1) := by decide +kernel
theorem dX8_person_22 : decode cX8_person 22 = .ok (.invokevirtual 90, 3) := by decide +kernel
theorem dX8_person_25 : decode cX8_person 25 = .ok (.ireturn, 1) := by decide +kernel
theorem dX8_feed_0 : decode cX8_feed 0 = .ok (.aload_n 0, 1) := by decide +kernel
theorem dX8_feed_1 : decode cX8_feed 1 = .ok (.getfield 22, 3) := by decide +kernel
theorem dX8_feed_4 : decode cX8_feed 4 = .ok (.getfield 94, 3) := by decide +kernel
theorem dX8_feed_7 : decode cX8_feed 7 = .ok (.sipush 280, 3) := by decide +kernel
theorem dX8_feed_10 : decode cX8_feed 10 = .ok (.if_icmp .le 5, 3) := by decide +kernel
theorem dX8_feed_13 : decode cX8_feed 13 = .ok (.iconst (-1), 1) := by decide +kernel
theorem dX8_feed_14 : decode cX8_feed 14 = .ok (.ireturn, 1) := by decide +kernel
theorem dX8_feed_15 : decode cX8_feed 15 = .ok (.aload_n 0, 1) := by decide +kernel
theorem dX8_feed_16 : decode cX8_feed 16 = .ok (.getfield 22, 3) := by decide +kernel
theorem dX8_feed_19 : decode cX8_feed 19 = .ok (.iload_n 1, 1) := by decide +kernel
theorem dX8_feed_20 : decode cX8_feed 20 = .ok (.invokevirtual 98, 3) := by decide +kernel
theorem dX8_feed_23 : decode cX8_feed 23 = .ok (.aload_n 0, 1) := by decide +kernel
theorem dX8_feed_24 : decode cX8_feed 24 = .ok (.getfield 22, 3) := by decide +kernel
theorem dX8_feed_27 : decode cX8_feed 27 = .ok (.iload_n 2, 1) := by decide +kernel
theorem dX8_feed_28 : decode cX8_feed 28 = .ok (.invokevirtual 98, 3) := by decide +kernel
theorem dX8_feed_31 : decode cX8_feed 31 = .ok (.aload_n 0, 1) := by decide +kernel
theorem dX8_feed_32 : decode cX8_feed 32 = .ok (.getfield 22, 3) := by decide +kernel
theorem dX8_feed_35 : decode cX8_feed 35 = .ok (.iload_n 3, 1) := by decide +kernel
theorem dX8_feed_36 : decode cX8_feed 36 = .ok (.invokevirtual 98, 3) := by decide +kernel
theorem dX8_feed_39 : decode cX8_feed 39 = .ok (.aload_n 0, 1) := by decide +kernel
theorem dX8_feed_40 : decode cX8_feed 40 = .ok (.getfield 22, 3) := by decide +kernel
theorem dX8_feed_43 : decode cX8_feed 43 = .ok (.iload 4, 2) := by decide +kernel
theorem dX8_feed_45 : decode cX8_feed 45 = .ok (.invokevirtual 98, 3) := by decide +kernel
theorem dX8_feed_48 : decode cX8_feed 48 = .ok (.aload_n 0, 1) := by decide +kernel
theorem dX8_feed_49 : decode cX8_feed 49 = .ok (.getfield 22, 3) := by decide +kernel
theorem dX8_feed_52 : decode cX8_feed 52 = .ok (.iload 5, 2) := by decide +kernel
theorem dX8_feed_54 : decode cX8_feed 54 = .ok (.invokevirtual 98, 3) := by decide +kernel
theorem dX8_feed_57 : decode cX8_feed 57 = .ok (.aload_n 0, 1) := by decide +kernel
theorem dX8_feed_58 : decode cX8_feed 58 = .ok (.getfield 22, 3) := by decide +kernel
theorem dX8_feed_61 : decode cX8_feed 61 = .ok (.getfield 94, 3) := by decide +kernel
theorem dX8_feed_64 : decode cX8_feed 64 = .ok (.ireturn, 1) := by decide +kernel
theorem dX8_end_0 : decode cX8_end 0 = .ok (.iload_n 1, 1) := by decide +kernel
theorem dX8_end_1 : decode cX8_end 1 = .ok (.iconst 0, 1) := by decide +kernel
theorem dX8_end_2 : decode cX8_end 2 = .ok (.aload_n 0, 1) := by decide +kernel
theorem dX8_end_3 : decode cX8_end 3 = .ok (.getfield 22, 3) := by decide +kernel
theorem dX8_end_6 : decode cX8_end 6 = .ok (.getfield 94, 3) := by decide +kernel
theorem dX8_end_9 : decode cX8_end 9 = .ok (.invokestatic 79, 3) := by decide +kernel
theorem dX8_end_12 : decode cX8_end 12 = .ok (.ifCond .ne 5, 3) := by decide +kernel
theorem dX8_end_15 : decode cX8_end 15 = .ok (.iconst (-1), 1) := by decide +kernel
theorem dX8_end_16 : decode cX8_end 16 = .ok (.ireturn, 1) := by decide +kernel
theorem dX8_end_17 : decode cX8_end 17 = .ok (.aload_n 0, 1) := by decide +kernel
theorem dX8_end_18 : decode cX8_end 18 = .ok (.getfield 22, 3) := by decide +kernel
theorem dX8_end_21 : decode cX8_end 21 = .ok (.iload_n 1, 1) := by decide +kernel
theorem dX8_end_22 : decode cX8_end 22 = .ok (.putfield 94, 3) := by decide +kernel
theorem dX8_end_25 : decode cX8_end 25 = .ok (.iload_n 1, 1) := by decide +kernel
theorem dX8_end_26 : decode cX8_end 26 = .ok (.ireturn, 1) := by decide +kernel
theorem dX8_text_0 : decode cX8_text 0 = .ok (.aload_n 0, 1) := by decide +kernel
theorem dX8_text_1 : decode cX8_text 1 = .ok (.getfield 12, 3) := by decide +kernel
theorem dX8_text_4 : decode cX8_text 4 = .ok (.getfield 102, 3) := by decide +kernel
theorem dX8_text_7 : decode cX8_text 7 = .ok (.iconst 4, 1) := by decide +kernel
theorem dX8_text_8 : decode cX8_text 8 = .ok (.if_icmp .ge 13, 3) := by decide +kernel
theorem dX8_text_11 : decode cX8_text 11 = .ok (.aload_n 0, 1) := by decide +kernel
theorem dX8_text_12 : decode cX8_text 12 = .ok (.getfield 22, 3) := by decide +kernel
theorem dX8_text_15 : decode cX8_text 15 = .ok (.invokevirtual 105, 3) := by decide +kernel
theorem dX8_text_18 : decode cX8_text 18 = .ok (.ifCond .ne 5, 3) := by decide +kernel
theorem dX8_text_21 : decode cX8_text 21 = .ok (.iconst (-1), 1) := by decide +kernel
theorem dX8_text_22 : decode cX8_text 22 = .ok (.ireturn, 1) := by decide +kernel
theorem dX8_text_23 : decode cX8_text 23 = .ok (.aload_n 0, 1) := by decide +kernel
theorem dX8_text_24 : decode cX8_text 24 = .ok (.getfield 31, 3) := by decide +kernel
theorem dX8_text_27 : decode cX8_text 27 = .ok (.aload_n 0, 1) := by decide +kernel
theorem dX8_text_28 : decode cX8_text 28 = .ok (.getfield 12, 3) := by decide +kernel
theorem dX8_text_31 : decode cX8_text 31 = .ok (.getfield 102, 3) := by decide +kernel
theorem dX8_text_34 : decode cX8_text 34 = .ok (.invokevirtual 109, 3) := by decide +kernel
theorem dX8_text_37 : decode cX8_text 37 = .ok (.aload_n 0, 1) := by decide +kernel
theorem dX8_text_38 : decode cX8_text 38 = .ok (.getfield 22, 3) := by decide +kernel
theorem dX8_text_41 : decode cX8_text 41 = .ok (.getfield 113, 3) := by decide +kernel
theorem dX8_text_44 : decode cX8_text 44 = .ok (.invokevirtual 117, 3) := by decide +kernel
theorem dX8_text_47 : decode cX8_text 47 = .ok (.aload_n 0, 1) := by decide +kernel
theorem dX8_text_48 : decode cX8_text 48 = .ok (.getfield 12, 3) := by decide +kernel
theorem dX8_text_51 : decode cX8_text 51 = .ok (.dup, 1) := by decide +kernel
theorem dX8_text_52 : decode cX8_text 52 = .ok (.getfield 102, 3) := by decide +kernel
theorem dX8_text_55 : decode cX8_text 55 = .ok (.iconst 1, 1) := by decide +kernel
theorem dX8_text_56 : decode cX8_text 56 = .ok (.iadd, 1) := by decide +kernel
theorem dX8_text_57 : decode cX8_text 57 = .ok (.putfield 102, 3) := by decide +kernel
theorem dX8_text_60 : decode cX8_text 60 = .ok (.aload_n 0, 1) := by decide +kernel
theorem dX8_text_61 : decode cX8_text 61 = .ok (.getfield 12, 3) := by decide +kernel
theorem dX8_text_64 : decode cX8_text 64 = .ok (.getfield 102, 3) := by decide +kernel
theorem dX8_text_67 : decode cX8_text 67 = .ok (.iconst 1, 1) := by decide +kernel
theorem dX8_text_68 : decode cX8_text 68 = .ok (.isub, 1) := by decide +kernel
theorem dX8_text_69 : decode cX8_text 69 = .ok (.ireturn, 1) := by decide +kernel
theorem dX8_fault_0 : decode cX8_fault 0 = .ok (.iload_n 1, 1) := by decide +kernel
theorem dX8_fault_1 : decode cX8_fault 1 = .ok (.ifCond .ne 11, 3) := by decide +kernel
theorem dX8_fault_4 : decode cX8_fault 4 = .ok (.aload_n 0, 1) := by decide +kernel
theorem dX8_fault_5 : decode cX8_fault 5 = .ok (.getfield 22, 3) := by decide +kernel
theorem dX8_fault_8 : decode cX8_fault 8 = .ok (.getfield 123, 3) := by decide +kernel
theorem dX8_fault_11 : decode cX8_fault 11 = .ok (.ireturn, 1) := by decide +kernel
theorem dX8_fault_12 : decode cX8_fault 12 = .ok (.iload_n 1, 1) := by decide +kernel
theorem dX8_fault_13 : decode cX8_fault 13 = .ok (.iconst 1, 1) := by decide +kernel
theorem dX8_fault_14 : decode cX8_fault 14 = .ok (.if_icmp .ne 13, 3) := by decide +kernel
theorem dX8_fault_17 : decode cX8_fault 17 = .ok (.aload_n 0, 1) := by decide +kernel
theorem dX8_fault_18 : decode cX8_fault 18 = .ok (.getfield 22, 3) := by decide +kernel
theorem dX8_fault_21 : decode cX8_fault 21 = .ok (.getfield 126, 3) := by decide +kernel
theorem dX8_fault_24 : decode cX8_fault 24 = .ok (.goto 4, 3) := by decide +kernel
theorem dX8_fault_27 : decode cX8_fault 27 = .ok (.iconst (-1), 1) := by decide +kernel
theorem dX8_fault_28 : decode cX8_fault 28 = .ok (.ireturn, 1) := by decide +kernel
theorem dX8_by_0 : decode cX8_by 0 = .ok (.iload_n 1, 1) := by decide +kernel
theorem dX8_by_1 : decode cX8_by 1 = .ok (.iconst (-1), 1) := by decide +kernel
theorem dX8_by_2 : decode cX8_by 2 = .ok (.if_icmp .eq 16, 3) := by decide +kernel
theorem dX8_by_5 : decode cX8_by 5 = .ok (.aload_n 0, 1) := by decide +kernel
theorem dX8_by_6 : decode cX8_by 6 = .ok (.getfield 12, 3) := by decide +kernel
theorem dX8_by_9 : decode cX8_by 9 = .ok (.iload_n 1, 1) := by decide +kernel
theorem dX8_by_10 : decode cX8_by 10 = .ok (.invokevirtual 129, 3) := by decide +kernel
theorem dX8_by_13 : decode cX8_by 13 = .ok (.ifCond .ne 5, 3) := by decide +kernel
theorem dX8_by_16 : decode cX8_by 16 = .ok (.iconst 0, 1) := by decide +kernel
theorem dX8_by_17 : decode cX8_by 17 = .ok (.ireturn, 1) := by decide +kernel
theorem dX8_by_18 : decode cX8_by 18 = .ok (.aload_n 0, 1) := by decide +kernel
theorem dX8_by_19 : decode cX8_by 19 = .ok (.getfield 12, 3) := by decide +kernel
theorem dX8_by_22 : decode cX8_by 22 = .ok (.iload_n 1, 1) := by decide +kernel
theorem dX8_by_23 : decode cX8_by 23 = .ok (.putfield 132, 3) := by decide +kernel
theorem dX8_by_26 : decode cX8_by 26 = .ok (.iconst 1, 1) := by decide +kernel
theorem dX8_by_27 : decode cX8_by 27 = .ok (.ireturn, 1) := by decide +kernel
theorem dX8_seat_0 : decode cX8_seat 0 = .ok (.aload_n 0, 1) := by decide +kernel
theorem dX8_seat_1 : decode cX8_seat 1 = .ok (.getfield 12, 3) := by decide +kernel
theorem dX8_seat_4 : decode cX8_seat 4 = .ok (.iload_n 1, 1) := by decide +kernel
theorem dX8_seat_5 : decode cX8_seat 5 = .ok (.invokevirtual 135, 3) := by decide +kernel
theorem dX8_seat_8 : decode cX8_seat 8 = .ok (.ifCond .eq 38, 3) := by decide +kernel
theorem dX8_seat_11 : decode cX8_seat 11 = .ok (.iload_n 2, 1) := by decide +kernel
theorem dX8_seat_12 : decode cX8_seat 12 = .ok (.invokestatic 87, 3) := by decide +kernel
theorem dX8_seat_15 : decode cX8_seat 15 = .ok (.ifCond .eq 31, 3) := by decide +kernel
theorem dX8_seat_18 : decode cX8_seat 18 = .ok (.aload_n 0, 1) := by decide +kernel
theorem dX8_seat_19 : decode cX8_seat 19 = .ok (.getfield 40, 3) := by decide +kernel
theorem dX8_seat_22 : decode cX8_seat 22 = .ok (.iload_n 1, 1) := by decide +kernel
theorem dX8_seat_23 : decode cX8_seat 23 = .ok (.iload_n 2, 1) := by decide +kernel
theorem dX8_seat_24 : decode cX8_seat 24 = .ok (.invokevirtual 138, 3) := by decide +kernel
theorem dX8_seat_27 : decode cX8_seat 27 = .ok (.ifCond .eq 19, 3) := by decide +kernel
theorem dX8_seat_30 : decode cX8_seat 30 = .ok (.aload_n 0, 1) := by decide +kernel
theorem dX8_seat_31 : decode cX8_seat 31 = .ok (.getfield 40, 3) := by decide +kernel
theorem dX8_seat_34 : decode cX8_seat 34 = .ok (.iload_n 1, 1) := by decide +kernel
theorem dX8_seat_35 : decode cX8_seat 35 = .ok (.iload_n 2, 1) := by decide +kernel
theorem dX8_seat_36 : decode cX8_seat 36 = .ok (.invokevirtual 142, 3) := by decide +kernel
theorem dX8_seat_39 : decode cX8_seat 39 = .ok (.ifCond .eq 7, 3) := by decide +kernel
theorem dX8_seat_42 : decode cX8_seat 42 = .ok (.iconst 1, 1) := by decide +kernel
theorem dX8_seat_43 : decode cX8_seat 43 = .ok (.goto 4, 3) := by decide +kernel
theorem dX8_seat_46 : decode cX8_seat 46 = .ok (.iconst 0, 1) := by decide +kernel
theorem dX8_seat_47 : decode cX8_seat 47 = .ok (.ireturn, 1) := by decide +kernel
theorem dX8_call_0 : decode cX8_call 0 = .ok (.iload_n 1, 1) := by decide +kernel
theorem dX8_call_1 : decode cX8_call 1 = .ok (.invokestatic 65, 3) := by decide +kernel
theorem dX8_call_4 : decode cX8_call 4 = .ok (.ifCond .eq 40, 3) := by decide +kernel
theorem dX8_call_7 : decode cX8_call 7 = .ok (.iload_n 2, 1) := by decide +kernel
theorem dX8_call_8 : decode cX8_call 8 = .ok (.iconst 1, 1) := by decide +kernel
theorem dX8_call_9 : decode cX8_call 9 = .ok (.iconst 3, 1) := by decide +kernel
theorem dX8_call_10 : decode cX8_call 10 = .ok (.invokestatic 79, 3) := by decide +kernel
theorem dX8_call_13 : decode cX8_call 13 = .ok (.ifCond .eq 31, 3) := by decide +kernel
theorem dX8_call_16 : decode cX8_call 16 = .ok (.aload_n 0, 1) := by decide +kernel
theorem dX8_call_17 : decode cX8_call 17 = .ok (.getfield 40, 3) := by decide +kernel
theorem dX8_call_20 : decode cX8_call 20 = .ok (.iload_n 1, 1) := by decide +kernel
theorem dX8_call_21 : decode cX8_call 21 = .ok (.iload_n 2, 1) := by decide +kernel
theorem dX8_call_22 : decode cX8_call 22 = .ok (.invokevirtual 145, 3) := by decide +kernel
theorem dX8_call_25 : decode cX8_call 25 = .ok (.ifCond .eq 19, 3) := by decide +kernel
theorem dX8_call_28 : decode cX8_call 28 = .ok (.aload_n 0, 1) := by decide +kernel
theorem dX8_call_29 : decode cX8_call 29 = .ok (.getfield 40, 3) := by decide +kernel
theorem dX8_call_32 : decode cX8_call 32 = .ok (.iload_n 1, 1) := by decide +kernel
theorem dX8_call_33 : decode cX8_call 33 = .ok (.iload_n 2, 1) := by decide +kernel
theorem dX8_call_34 : decode cX8_call 34 = .ok (.invokevirtual 148, 3) := by decide +kernel
theorem dX8_call_37 : decode cX8_call 37 = .ok (.ifCond .eq 7, 3) := by decide +kernel
theorem dX8_call_40 : decode cX8_call 40 = .ok (.iconst 1, 1) := by decide +kernel
theorem dX8_call_41 : decode cX8_call 41 = .ok (.goto 4, 3) := by decide +kernel
theorem dX8_call_44 : decode cX8_call 44 = .ok (.iconst 0, 1) := by decide +kernel
theorem dX8_call_45 : decode cX8_call 45 = .ok (.ireturn, 1) := by decide +kernel
theorem dX8_mend_0 : decode cX8_mend 0 = .ok (.iload_n 1, 1) := by decide +kernel
theorem dX8_mend_1 : decode cX8_mend 1 = .ok (.invokestatic 65, 3) := by decide +kernel
theorem dX8_mend_4 : decode cX8_mend 4 = .ok (.ifCond .eq 29, 3) := by decide +kernel
theorem dX8_mend_7 : decode cX8_mend 7 = .ok (.aload_n 0, 1) := by decide +kernel
theorem dX8_mend_8 : decode cX8_mend 8 = .ok (.getfield 40, 3) := by decide +kernel
theorem dX8_mend_11 : decode cX8_mend 11 = .ok (.iload_n 1, 1) := by decide +kernel
theorem dX8_mend_12 : decode cX8_mend 12 = .ok (.invokevirtual 151, 3) := by decide +kernel
theorem dX8_mend_15 : decode cX8_mend 15 = .ok (.ifCond .eq 18, 3) := by decide +kernel
theorem dX8_mend_18 : decode cX8_mend 18 = .ok (.aload_n 0, 1) := by decide +kernel
theorem dX8_mend_19 : decode cX8_mend 19 = .ok (.getfield 40, 3) := by decide +kernel
theorem dX8_mend_22 : decode cX8_mend 22 = .ok (.iload_n 1, 1) := by decide +kernel
theorem dX8_mend_23 : decode cX8_mend 23 = .ok (.invokevirtual 154, 3) := by decide +kernel
theorem dX8_mend_26 : decode cX8_mend 26 = .ok (.ifCond .eq 7, 3) := by decide +kernel
theorem dX8_mend_29 : decode cX8_mend 29 = .ok (.iconst 1, 1) := by decide +kernel
theorem dX8_mend_30 : decode cX8_mend 30 = .ok (.goto 4, 3) := by decide +kernel
theorem dX8_mend_33 : decode cX8_mend 33 = .ok (.iconst 0, 1) := by decide +kernel
theorem dX8_mend_34 : decode cX8_mend 34 = .ok (.ireturn, 1) := by decide +kernel
theorem dX8_evening_0 : decode cX8_evening 0 = .ok (.iload_n 1, 1) := by decide +kernel
theorem dX8_evening_1 : decode cX8_evening 1 = .ok (.iconst 1, 1) := by decide +kernel
theorem dX8_evening_2 : decode cX8_evening 2 = .ok (.bipush 40, 2) := by decide +kernel
theorem dX8_evening_4 : decode cX8_evening 4 = .ok (.invokestatic 79, 3) := by decide +kernel
theorem dX8_evening_7 : decode cX8_evening 7 = .ok (.ifCond .eq 15, 3) := by decide +kernel
theorem dX8_evening_10 : decode cX8_evening 10 = .ok (.aload_n 0, 1) := by decide +kernel
theorem dX8_evening_11 : decode cX8_evening 11 = .ok (.getfield 40, 3) := by decide +kernel
theorem dX8_evening_14 : decode cX8_evening 14 = .ok (.iload_n 1, 1) := by decide +kernel
theorem dX8_evening_15 : decode cX8_evening 15 = .ok (.invokevirtual 157, 3) := by decide +kernel
theorem dX8_evening_18 : decode cX8_evening 18 = .ok (.iload_n 1, 1) := by decide +kernel
theorem dX8_evening_19 : decode cX8_evening 19 = .ok (.if_icmp .ge 5, 3) := by decide +kernel
theorem dX8_evening_22 : decode cX8_evening 22 = .ok (.iconst (-1), 1) := by decide +kernel
theorem dX8_evening_23 : decode cX8_evening 23 = .ok (.ireturn, 1) := by decide +kernel
theorem dX8_evening_24 : decode cX8_evening 24 = .ok (.aload_n 0, 1) := by decide +kernel
theorem dX8_evening_25 : decode cX8_evening 25 = .ok (.getfield 40, 3) := by decide +kernel
theorem dX8_evening_28 : decode cX8_evening 28 = .ok (.iload_n 1, 1) := by decide +kernel
theorem dX8_evening_29 : decode cX8_evening 29 = .ok (.invokevirtual 161, 3) := by decide +kernel
theorem dX8_evening_32 : decode cX8_evening 32 = .ok (.ireturn, 1) := by decide +kernel
theorem dX8_played_0 : decode cX8_played 0 = .ok (.aload_n 0, 1) := by decide +kernel
theorem dX8_played_1 : decode cX8_played 1 = .ok (.getfield 12, 3) := by decide +kernel
theorem dX8_played_4 : decode cX8_played 4 = .ok (.iload_n 1, 1) := by decide +kernel
theorem dX8_played_5 : decode cX8_played 5 = .ok (.invokevirtual 129, 3) := by decide +kernel
theorem dX8_played_8 : decode cX8_played 8 = .ok (.ifCond .ne 6, 3) := by decide +kernel
theorem dX8_played_11 : decode cX8_played 11 = .ok (.bipush (-2), 2) := by decide +kernel
theorem dX8_played_13 : decode cX8_played 13 = .ok (.ireturn, 1) := by decide +kernel
theorem dX8_played_14 : decode cX8_played 14 = .ok (.aload_n 0, 1) := by decide +kernel
theorem dX8_played_15 : decode cX8_played 15 = .ok (.getfield 31, 3) := by decide +kernel
theorem dX8_played_18 : decode cX8_played 18 = .ok (.iload_n 1, 1) := by decide +kernel
theorem dX8_played_19 : decode cX8_played 19 = .ok (.invokevirtual 109, 3) := by decide +kernel
theorem dX8_played_22 : decode cX8_played 22 = .ok (.astore_n 2, 1) := by decide +kernel
theorem dX8_played_23 : decode cX8_played 23 = .ok (.iconst 0, 1) := by decide +kernel
theorem dX8_played_24 : decode cX8_played 24 = .ok (.istore_n 3, 1) := by decide +kernel
theorem dX8_played_25 : decode cX8_played 25 = .ok (.iload_n 3, 1) := by decide +kernel
theorem dX8_played_26 : decode cX8_played 26 = .ok (.aload_n 2, 1) := by decide +kernel
theorem dX8_played_27 : decode cX8_played 27 = .ok (.getfield 164, 3) := by decide +kernel
theorem dX8_played_30 : decode cX8_played 30 = .ok (.if_icmp .ge 45, 3) := by decide +kernel
theorem dX8_played_33 : decode cX8_played 33 = .ok (.aload_n 0, 1) := by decide +kernel
theorem dX8_played_34 : decode cX8_played 34 = .ok (.getfield 40, 3) := by decide +kernel
theorem dX8_played_37 : decode cX8_played 37 = .ok (.aload_n 2, 1) := by decide +kernel
theorem dX8_played_38 : decode cX8_played 38 = .ok (.getfield 167, 3) := by decide +kernel
theorem dX8_played_41 : decode cX8_played 41 = .ok (.iload_n 3, 1) := by decide +kernel
theorem dX8_played_42 : decode cX8_played 42 = .ok (.iaload, 1) := by decide +kernel
theorem dX8_played_43 : decode cX8_played 43 = .ok (.aload_n 2, 1) := by decide +kernel
theorem dX8_played_44 : decode cX8_played 44 = .ok (.iload_n 3, 1) := by decide +kernel
theorem dX8_played_45 : decode cX8_played 45 = .ok (.iconst 0, 1) := by decide +kernel
theorem dX8_played_46 : decode cX8_played 46 = .ok (.invokevirtual 170, 3) := by decide +kernel
theorem dX8_played_49 : decode cX8_played 49 = .ok (.aload_n 2, 1) := by decide +kernel
theorem dX8_played_50 : decode cX8_played 50 = .ok (.iload_n 3, 1) := by decide +kernel
theorem dX8_played_51 : decode cX8_played 51 = .ok (.iconst 1, 1) := by decide +kernel
theorem dX8_played_52 : decode cX8_played 52 = .ok (.invokevirtual 170, 3) := by decide +kernel
theorem dX8_played_55 : decode cX8_played 55 = .ok (.aload_n 2, 1) := by decide +kernel
theorem dX8_played_56 : decode cX8_played 56 = .ok (.iload_n 3, 1) := by decide +kernel
theorem dX8_played_57 : decode cX8_played 57 = .ok (.iconst 2, 1) := by decide +kernel
theorem dX8_played_58 : decode cX8_played 58 = .ok (.invokevirtual 170, 3) := by decide +kernel
theorem dX8_played_61 : decode cX8_played 61 = .ok (.invokevirtual 173, 3) := by decide +kernel
theorem dX8_played_64 : decode cX8_played 64 = .ok (.ifCond .ne 5, 3) := by decide +kernel
theorem dX8_played_67 : decode cX8_played 67 = .ok (.iload_n 3, 1) := by decide +kernel
theorem dX8_played_68 : decode cX8_played 68 = .ok (.ireturn, 1) := by decide +kernel
theorem dX8_played_69 : decode cX8_played 69 = .ok (.iinc 3 1, 3) := by decide +kernel
theorem dX8_played_72 : decode cX8_played 72 = .ok (.goto (-47), 3) := by decide +kernel
theorem dX8_played_75 : decode cX8_played 75 = .ok (.iconst (-1), 1) := by decide +kernel
theorem dX8_played_76 : decode cX8_played 76 = .ok (.ireturn, 1) := by decide +kernel
theorem dX8_years_0 : decode cX8_years 0 = .ok (.iload_n 1, 1) := by decide +kernel
theorem dX8_years_1 : decode cX8_years 1 = .ok (.iconst 0, 1) := by decide +kernel
theorem dX8_years_2 : decode cX8_years 2 = .ok (.sipush 9999, 3) := by decide +kernel
theorem dX8_years_5 : decode cX8_years 5 = .ok (.invokestatic 79, 3) := by decide +kernel
theorem dX8_years_8 : decode cX8_years 8 = .ok (.ifCond .eq 13, 3) := by decide +kernel
theorem dX8_years_11 : decode cX8_years 11 = .ok (.iload_n 2, 1) := by decide +kernel
theorem dX8_years_12 : decode cX8_years 12 = .ok (.iconst 1, 1) := by decide +kernel
theorem dX8_years_13 : decode cX8_years 13 = .ok (.bipush 40, 2) := by decide +kernel
theorem dX8_years_15 : decode cX8_years 15 = .ok (.invokestatic 79, 3) := by decide +kernel
theorem dX8_years_18 : decode cX8_years 18 = .ok (.ifCond .ne 5, 3) := by decide +kernel
theorem dX8_years_21 : decode cX8_years 21 = .ok (.iconst (-1), 1) := by decide +kernel
theorem dX8_years_22 : decode cX8_years 22 = .ok (.ireturn, 1) := by decide +kernel
theorem dX8_years_23 : decode cX8_years 23 = .ok (.aload_n 0, 1) := by decide +kernel
theorem dX8_years_24 : decode cX8_years 24 = .ok (.getfield 40, 3) := by decide +kernel
theorem dX8_years_27 : decode cX8_years 27 = .ok (.iload_n 1, 1) := by decide +kernel
theorem dX8_years_28 : decode cX8_years 28 = .ok (.iload_n 2, 1) := by decide +kernel
theorem dX8_years_29 : decode cX8_years 29 = .ok (.invokevirtual 177, 3) := by decide +kernel
theorem dX8_years_32 : decode cX8_years 32 = .ok (.aload_n 0, 1) := by decide +kernel
theorem dX8_years_33 : decode cX8_years 33 = .ok (.getfield 12, 3) := by decide +kernel
theorem dX8_years_36 : decode cX8_years 36 = .ok (.getfield 181, 3) := by decide +kernel
theorem dX8_years_39 : decode cX8_years 39 = .ok (.bipush 41, 2) := by decide +kernel
theorem dX8_years_41 : decode cX8_years 41 = .ok (.iaload, 1) := by decide +kernel
theorem dX8_years_42 : decode cX8_years 42 = .ok (.ireturn, 1) := by decide +kernel
theorem dX8_undo_0 : decode cX8_undo 0 = .ok (.aload_n 0, 1) := by decide +kernel
theorem dX8_undo_1 : decode cX8_undo 1 = .ok (.getfield 12, 3) := by decide +kernel
theorem dX8_undo_4 : decode cX8_undo 4 = .ok (.getfield 184, 3) := by decide +kernel
theorem dX8_undo_7 : decode cX8_undo 7 = .ok (.ifCond .ne 7, 3) := by decide +kernel
theorem dX8_undo_10 : decode cX8_undo 10 = .ok (.iconst (-1), 1) := by decide +kernel
theorem dX8_undo_11 : decode cX8_undo 11 = .ok (.goto 10, 3) := by decide +kernel
theorem dX8_undo_14 : decode cX8_undo 14 = .ok (.aload_n 0, 1) := by decide +kernel
theorem dX8_undo_15 : decode cX8_undo 15 = .ok (.getfield 12, 3) := by decide +kernel
theorem dX8_undo_18 : decode cX8_undo 18 = .ok (.invokevirtual 187, 3) := by decide +kernel
theorem dX8_undo_21 : decode cX8_undo 21 = .ok (.ireturn, 1) := by decide +kernel
theorem dX8_of_0 : decode cX8_of 0 = .ok (.aload_n 0, 1) := by decide +kernel
theorem dX8_of_1 : decode cX8_of 1 = .ok (.getfield 12, 3) := by decide +kernel
theorem dX8_of_4 : decode cX8_of 4 = .ok (.iload_n 1, 1) := by decide +kernel
theorem dX8_of_5 : decode cX8_of 5 = .ok (.invokevirtual 135, 3) := by decide +kernel
theorem dX8_of_8 : decode cX8_of 8 = .ok (.ifCond .ne 5, 3) := by decide +kernel
theorem dX8_of_11 : decode cX8_of 11 = .ok (.iconst (-1), 1) := by decide +kernel
theorem dX8_of_12 : decode cX8_of 12 = .ok (.ireturn, 1) := by decide +kernel
theorem dX8_of_13 : decode cX8_of 13 = .ok (.iload_n 2, 1) := by decide +kernel
theorem dX8_of_14 : decode cX8_of 14 = .ok (.tableswitch 89 0 3 #[30, 40, 52, 65], 30) := by decide +kernel
theorem dX8_of_44 : decode cX8_of 44 = .ok (.aload_n 0, 1) := by decide +kernel
theorem dX8_of_45 : decode cX8_of 45 = .ok (.getfield 12, 3) := by decide +kernel
theorem dX8_of_48 : decode cX8_of 48 = .ok (.getfield 191, 3) := by decide +kernel
theorem dX8_of_51 : decode cX8_of 51 = .ok (.iload_n 1, 1) := by decide +kernel
theorem dX8_of_52 : decode cX8_of 52 = .ok (.iaload, 1) := by decide +kernel
theorem dX8_of_53 : decode cX8_of 53 = .ok (.ireturn, 1) := by decide +kernel
theorem dX8_of_54 : decode cX8_of 54 = .ok (.aload_n 0, 1) := by decide +kernel
theorem dX8_of_55 : decode cX8_of 55 = .ok (.getfield 12, 3) := by decide +kernel
theorem dX8_of_58 : decode cX8_of 58 = .ok (.getfield 181, 3) := by decide +kernel
theorem dX8_of_61 : decode cX8_of 61 = .ok (.iconst 0, 1) := by decide +kernel
theorem dX8_of_62 : decode cX8_of 62 = .ok (.iload_n 1, 1) := by decide +kernel
theorem dX8_of_63 : decode cX8_of 63 = .ok (.iadd, 1) := by decide +kernel
theorem dX8_of_64 : decode cX8_of 64 = .ok (.iaload, 1) := by decide +kernel
theorem dX8_of_65 : decode cX8_of 65 = .ok (.ireturn, 1) := by decide +kernel
theorem dX8_of_66 : decode cX8_of 66 = .ok (.aload_n 0, 1) := by decide +kernel
theorem dX8_of_67 : decode cX8_of 67 = .ok (.getfield 12, 3) := by decide +kernel
theorem dX8_of_70 : decode cX8_of 70 = .ok (.getfield 181, 3) := by decide +kernel
theorem dX8_of_73 : decode cX8_of 73 = .ok (.bipush 8, 2) := by decide +kernel
theorem dX8_of_75 : decode cX8_of 75 = .ok (.iload_n 1, 1) := by decide +kernel
theorem dX8_of_76 : decode cX8_of 76 = .ok (.iadd, 1) := by decide +kernel
theorem dX8_of_77 : decode cX8_of 77 = .ok (.iaload, 1) := by decide +kernel
theorem dX8_of_78 : decode cX8_of 78 = .ok (.ireturn, 1) := by decide +kernel
theorem dX8_of_79 : decode cX8_of 79 = .ok (.aload_n 0, 1) := by decide +kernel
theorem dX8_of_80 : decode cX8_of 80 = .ok (.getfield 31, 3) := by decide +kernel
theorem dX8_of_83 : decode cX8_of 83 = .ok (.invokevirtual 194, 3) := by decide +kernel
theorem dX8_of_86 : decode cX8_of 86 = .ok (.aload_n 0, 1) := by decide +kernel
theorem dX8_of_87 : decode cX8_of 87 = .ok (.getfield 31, 3) := by decide +kernel
theorem dX8_of_90 : decode cX8_of 90 = .ok (.aload_n 0, 1) := by decide +kernel
theorem dX8_of_91 : decode cX8_of 91 = .ok (.getfield 12, 3) := by decide +kernel
theorem dX8_of_94 : decode cX8_of 94 = .ok (.getfield 132, 3) := by decide +kernel
theorem dX8_of_97 : decode cX8_of 97 = .ok (.iload_n 1, 1) := by decide +kernel
theorem dX8_of_98 : decode cX8_of 98 = .ok (.iconst 1, 1) := by decide +kernel
theorem dX8_of_99 : decode cX8_of 99 = .ok (.invokevirtual 197, 3) := by decide +kernel
theorem dX8_of_102 : decode cX8_of 102 = .ok (.ireturn, 1) := by decide +kernel
theorem dX8_of_103 : decode cX8_of 103 = .ok (.iconst (-1), 1) := by decide +kernel
theorem dX8_of_104 : decode cX8_of 104 = .ok (.ireturn, 1) := by decide +kernel
theorem dX8_ofScene_0 : decode cX8_ofScene 0 = .ok (.iload_n 1, 1) := by decide +kernel
theorem dX8_ofScene_1 : decode cX8_ofScene 1 = .ok (.invokestatic 65, 3) := by decide +kernel
theorem dX8_ofScene_4 : decode cX8_ofScene 4 = .ok (.ifCond .ne 5, 3) := by decide +kernel
theorem dX8_ofScene_7 : decode cX8_ofScene 7 = .ok (.iconst (-1), 1) := by decide +kernel
theorem dX8_ofScene_8 : decode cX8_ofScene 8 = .ok (.ireturn, 1) := by decide +kernel
theorem dX8_ofScene_9 : decode cX8_ofScene 9 = .ok (.iload_n 2, 1) := by decide +kernel
theorem dX8_ofScene_10 : decode cX8_ofScene 10 = .ok (.invokestatic 69, 3) := by decide +kernel
theorem dX8_ofScene_13 : decode cX8_ofScene 13 = .ok (.ifCond .eq 13, 3) := by decide +kernel
theorem dX8_ofScene_16 : decode cX8_ofScene 16 = .ok (.aload_n 0, 1) := by decide +kernel
theorem dX8_ofScene_17 : decode cX8_ofScene 17 = .ok (.getfield 12, 3) := by decide +kernel
theorem dX8_ofScene_20 : decode cX8_ofScene 20 = .ok (.iload_n 1, 1) := by decide +kernel
theorem dX8_ofScene_21 : decode cX8_ofScene 21 = .ok (.iload_n 2, 1) := by decide +kernel
theorem dX8_ofScene_22 : decode cX8_ofScene 22 = .ok (.invokevirtual 201, 3) := by decide +kernel
theorem dX8_ofScene_25 : decode cX8_ofScene 25 = .ok (.ireturn, 1) := by decide +kernel
theorem dX8_ofScene_26 : decode cX8_ofScene 26 = .ok (.iload_n 2, 1) := by decide +kernel
theorem dX8_ofScene_27 : decode cX8_ofScene 27 = .ok (.tableswitch 93 4 7 #[29, 41, 51, 64], 29) := by decide +kernel
theorem dX8_ofScene_56 : decode cX8_ofScene 56 = .ok (.aload_n 0, 1) := by decide +kernel
theorem dX8_ofScene_57 : decode cX8_ofScene 57 = .ok (.getfield 12, 3) := by decide +kernel
theorem dX8_ofScene_60 : decode cX8_ofScene 60 = .ok (.getfield 204, 3) := by decide +kernel
theorem dX8_ofScene_63 : decode cX8_ofScene 63 = .ok (.iload_n 1, 1) := by decide +kernel
theorem dX8_ofScene_64 : decode cX8_ofScene 64 = .ok (.iconst 4, 1) := by decide +kernel
theorem dX8_ofScene_65 : decode cX8_ofScene 65 = .ok (.imul, 1) := by decide +kernel
theorem dX8_ofScene_66 : decode cX8_ofScene 66 = .ok (.iaload, 1) := by decide +kernel
theorem dX8_ofScene_67 : decode cX8_ofScene 67 = .ok (.ireturn, 1) := by decide +kernel
theorem dX8_ofScene_68 : decode cX8_ofScene 68 = .ok (.aload_n 0, 1) := by decide +kernel
theorem dX8_ofScene_69 : decode cX8_ofScene 69 = .ok (.getfield 12, 3) := by decide +kernel
theorem dX8_ofScene_72 : decode cX8_ofScene 72 = .ok (.getfield 83, 3) := by decide +kernel
theorem dX8_ofScene_75 : decode cX8_ofScene 75 = .ok (.iload_n 1, 1) := by decide +kernel
theorem dX8_ofScene_76 : decode cX8_ofScene 76 = .ok (.iaload, 1) := by decide +kernel
theorem dX8_ofScene_77 : decode cX8_ofScene 77 = .ok (.ireturn, 1) := by decide +kernel
theorem dX8_ofScene_78 : decode cX8_ofScene 78 = .ok (.aload_n 0, 1) := by decide +kernel
theorem dX8_ofScene_79 : decode cX8_ofScene 79 = .ok (.getfield 12, 3) := by decide +kernel
theorem dX8_ofScene_82 : decode cX8_ofScene 82 = .ok (.getfield 181, 3) := by decide +kernel
theorem dX8_ofScene_85 : decode cX8_ofScene 85 = .ok (.bipush 28, 2) := by decide +kernel
theorem dX8_ofScene_87 : decode cX8_ofScene 87 = .ok (.iload_n 1, 1) := by decide +kernel
theorem dX8_ofScene_88 : decode cX8_ofScene 88 = .ok (.iadd, 1) := by decide +kernel
theorem dX8_ofScene_89 : decode cX8_ofScene 89 = .ok (.iaload, 1) := by decide +kernel
theorem dX8_ofScene_90 : decode cX8_ofScene 90 = .ok (.ireturn, 1) := by decide +kernel
theorem dX8_ofScene_91 : decode cX8_ofScene 91 = .ok (.aload_n 0, 1) := by decide +kernel
theorem dX8_ofScene_92 : decode cX8_ofScene 92 = .ok (.getfield 31, 3) := by decide +kernel
theorem dX8_ofScene_95 : decode cX8_ofScene 95 = .ok (.invokevirtual 194, 3) := by decide +kernel
theorem dX8_ofScene_98 : decode cX8_ofScene 98 = .ok (.aload_n 0, 1) := by decide +kernel
theorem dX8_ofScene_99 : decode cX8_ofScene 99 = .ok (.getfield 31, 3) := by decide +kernel
theorem dX8_ofScene_102 : decode cX8_ofScene 102 = .ok (.iload_n 1, 1) := by decide +kernel
theorem dX8_ofScene_103 : decode cX8_ofScene 103 = .ok (.aload_n 0, 1) := by decide +kernel
theorem dX8_ofScene_104 : decode cX8_ofScene 104 = .ok (.getfield 12, 3) := by decide +kernel
theorem dX8_ofScene_107 : decode cX8_ofScene 107 = .ok (.getfield 181, 3) := by decide +kernel
theorem dX8_ofScene_110 : decode cX8_ofScene 110 = .ok (.bipush 28, 2) := by decide +kernel
theorem dX8_ofScene_112 : decode cX8_ofScene 112 = .ok (.iload_n 1, 1) := by decide +kernel
theorem dX8_ofScene_113 : decode cX8_ofScene 113 = .ok (.iadd, 1) := by decide +kernel
theorem dX8_ofScene_114 : decode cX8_ofScene 114 = .ok (.iaload, 1) := by decide +kernel
theorem dX8_ofScene_115 : decode cX8_ofScene 115 = .ok (.iconst 0, 1) := by decide +kernel
theorem dX8_ofScene_116 : decode cX8_ofScene 116 = .ok (.invokevirtual 207, 3) := by decide +kernel
theorem dX8_ofScene_119 : decode cX8_ofScene 119 = .ok (.ireturn, 1) := by decide +kernel
theorem dX8_ofScene_120 : decode cX8_ofScene 120 = .ok (.iconst (-1), 1) := by decide +kernel
theorem dX8_ofScene_121 : decode cX8_ofScene 121 = .ok (.ireturn, 1) := by decide +kernel
theorem dX8_is_0 : decode cX8_is 0 = .ok (.iload_n 1, 1) := by decide +kernel
theorem dX8_is_1 : decode cX8_is 1 = .ok (.tableswitch 72 0 3 #[31, 42, 53, 61], 31) := by decide +kernel
theorem dX8_is_32 : decode cX8_is 32 = .ok (.aload_n 0, 1) := by decide +kernel
theorem dX8_is_33 : decode cX8_is 33 = .ok (.getfield 12, 3) := by decide +kernel
theorem dX8_is_36 : decode cX8_is 36 = .ok (.getfield 181, 3) := by decide +kernel
theorem dX8_is_39 : decode cX8_is 39 = .ok (.bipush 41, 2) := by decide +kernel
theorem dX8_is_41 : decode cX8_is 41 = .ok (.iaload, 1) := by decide +kernel
theorem dX8_is_42 : decode cX8_is 42 = .ok (.ireturn, 1) := by decide +kernel
theorem dX8_is_43 : decode cX8_is 43 = .ok (.aload_n 0, 1) := by decide +kernel
theorem dX8_is_44 : decode cX8_is 44 = .ok (.getfield 12, 3) := by decide +kernel
theorem dX8_is_47 : decode cX8_is 47 = .ok (.getfield 181, 3) := by decide +kernel
theorem dX8_is_50 : decode cX8_is 50 = .ok (.bipush 42, 2) := by decide +kernel
theorem dX8_is_52 : decode cX8_is 52 = .ok (.iaload, 1) := by decide +kernel
theorem dX8_is_53 : decode cX8_is 53 = .ok (.ireturn, 1) := by decide +kernel
theorem dX8_is_54 : decode cX8_is 54 = .ok (.aload_n 0, 1) := by decide +kernel
theorem dX8_is_55 : decode cX8_is 55 = .ok (.getfield 12, 3) := by decide +kernel
theorem dX8_is_58 : decode cX8_is 58 = .ok (.invokevirtual 210, 3) := by decide +kernel
theorem dX8_is_61 : decode cX8_is 61 = .ok (.ireturn, 1) := by decide +kernel
theorem dX8_is_62 : decode cX8_is 62 = .ok (.aload_n 0, 1) := by decide +kernel
theorem dX8_is_63 : decode cX8_is 63 = .ok (.getfield 12, 3) := by decide +kernel
theorem dX8_is_66 : decode cX8_is 66 = .ok (.getfield 181, 3) := by decide +kernel
theorem dX8_is_69 : decode cX8_is 69 = .ok (.bipush 40, 2) := by decide +kernel
theorem dX8_is_71 : decode cX8_is 71 = .ok (.iaload, 1) := by decide +kernel
theorem dX8_is_72 : decode cX8_is 72 = .ok (.ireturn, 1) := by decide +kernel
theorem dX8_is_73 : decode cX8_is 73 = .ok (.bipush (-2), 2) := by decide +kernel
theorem dX8_is_75 : decode cX8_is 75 = .ok (.ireturn, 1) := by decide +kernel
theorem dX8_book_0 : decode cX8_book 0 = .ok (.aload_n 0, 1) := by decide +kernel
theorem dX8_book_1 : decode cX8_book 1 = .ok (.getfield 12, 3) := by decide +kernel
theorem dX8_book_4 : decode cX8_book 4 = .ok (.invokevirtual 213, 3) := by decide +kernel
theorem dX8_book_7 : decode cX8_book 7 = .ok (.istore_n 3, 1) := by decide +kernel
theorem dX8_book_8 : decode cX8_book 8 = .ok (.iload_n 1, 1) := by decide +kernel
theorem dX8_book_9 : decode cX8_book 9 = .ok (.iconst (-1), 1) := by decide +kernel
theorem dX8_book_10 : decode cX8_book 10 = .ok (.if_icmp .ne 5, 3) := by decide +kernel
theorem dX8_book_13 : decode cX8_book 13 = .ok (.iload_n 3, 1) := by decide +kernel
theorem dX8_book_14 : decode cX8_book 14 = .ok (.ireturn, 1) := by decide +kernel
theorem dX8_book_15 : decode cX8_book 15 = .ok (.iload_n 1, 1) := by decide +kernel
theorem dX8_book_16 : decode cX8_book 16 = .ok (.iconst 0, 1) := by decide +kernel
theorem dX8_book_17 : decode cX8_book 17 = .ok (.iload_n 3, 1) := by decide +kernel
theorem dX8_book_18 : decode cX8_book 18 = .ok (.iconst 1, 1) := by decide +kernel
theorem dX8_book_19 : decode cX8_book 19 = .ok (.isub, 1) := by decide +kernel
theorem dX8_book_20 : decode cX8_book 20 = .ok (.invokestatic 79, 3) := by decide +kernel
theorem dX8_book_23 : decode cX8_book 23 = .ok (.ifCond .ne 6, 3) := by decide +kernel
theorem dX8_book_26 : decode cX8_book 26 = .ok (.bipush (-2), 2) := by decide +kernel
theorem dX8_book_28 : decode cX8_book 28 = .ok (.ireturn, 1) := by decide +kernel
theorem dX8_book_29 : decode cX8_book 29 = .ok (.aload_n 0, 1) := by decide +kernel
theorem dX8_book_30 : decode cX8_book 30 = .ok (.getfield 12, 3) := by decide +kernel
theorem dX8_book_33 : decode cX8_book 33 = .ok (.getfield 181, 3) := by decide +kernel
theorem dX8_book_36 : decode cX8_book 36 = .ok (.bipush 41, 2) := by decide +kernel
theorem dX8_book_38 : decode cX8_book 38 = .ok (.iaload, 1) := by decide +kernel
theorem dX8_book_39 : decode cX8_book 39 = .ok (.iload_n 3, 1) := by decide +kernel
theorem dX8_book_40 : decode cX8_book 40 = .ok (.isub, 1) := by decide +kernel
theorem dX8_book_41 : decode cX8_book 41 = .ok (.iload_n 1, 1) := by decide +kernel
theorem dX8_book_42 : decode cX8_book 42 = .ok (.iadd, 1) := by decide +kernel
theorem dX8_book_43 : decode cX8_book 43 = .ok (.istore 4, 2) := by decide +kernel
theorem dX8_book_45 : decode cX8_book 45 = .ok (.iload_n 2, 1) := by decide +kernel
theorem dX8_book_46 : decode cX8_book 46 = .ok (.tableswitch 84 0 3 #[30, 33, 50, 67], 30) := by decide +kernel
theorem dX8_book_76 : decode cX8_book 76 = .ok (.iload 4, 2) := by decide +kernel
theorem dX8_book_78 : decode cX8_book 78 = .ok (.ireturn, 1) := by decide +kernel
theorem dX8_book_79 : decode cX8_book 79 = .ok (.aload_n 0, 1) := by decide +kernel
theorem dX8_book_80 : decode cX8_book 80 = .ok (.getfield 12, 3) := by decide +kernel
theorem dX8_book_83 : decode cX8_book 83 = .ok (.getfield 181, 3) := by decide +kernel
theorem dX8_book_86 : decode cX8_book 86 = .ok (.bipush 43, 2) := by decide +kernel
theorem dX8_book_88 : decode cX8_book 88 = .ok (.iload 4, 2) := by decide +kernel
theorem dX8_book_90 : decode cX8_book 90 = .ok (.bipush 30, 2) := by decide +kernel
theorem dX8_book_92 : decode cX8_book 92 = .ok (.irem, 1) := by decide +kernel
theorem dX8_book_93 : decode cX8_book 93 = .ok (.iadd, 1) := by decide +kernel
theorem dX8_book_94 : decode cX8_book 94 = .ok (.iaload, 1) := by decide +kernel
theorem dX8_book_95 : decode cX8_book 95 = .ok (.ireturn, 1) := by decide +kernel
theorem dX8_book_96 : decode cX8_book 96 = .ok (.aload_n 0, 1) := by decide +kernel
theorem dX8_book_97 : decode cX8_book 97 = .ok (.getfield 12, 3) := by decide +kernel
theorem dX8_book_100 : decode cX8_book 100 = .ok (.getfield 181, 3) := by decide +kernel
theorem dX8_book_103 : decode cX8_book 103 = .ok (.bipush 73, 2) := by decide +kernel
theorem dX8_book_105 : decode cX8_book 105 = .ok (.iload 4, 2) := by decide +kernel
theorem dX8_book_107 : decode cX8_book 107 = .ok (.bipush 30, 2) := by decide +kernel
theorem dX8_book_109 : decode cX8_book 109 = .ok (.irem, 1) := by decide +kernel
theorem dX8_book_110 : decode cX8_book 110 = .ok (.iadd, 1) := by decide +kernel
theorem dX8_book_111 : decode cX8_book 111 = .ok (.iaload, 1) := by decide +kernel
theorem dX8_book_112 : decode cX8_book 112 = .ok (.ireturn, 1) := by decide +kernel
theorem dX8_book_113 : decode cX8_book 113 = .ok (.aload_n 0, 1) := by decide +kernel
theorem dX8_book_114 : decode cX8_book 114 = .ok (.getfield 12, 3) := by decide +kernel
theorem dX8_book_117 : decode cX8_book 117 = .ok (.getfield 181, 3) := by decide +kernel
theorem dX8_book_120 : decode cX8_book 120 = .ok (.bipush 103, 2) := by decide +kernel
theorem dX8_book_122 : decode cX8_book 122 = .ok (.iload 4, 2) := by decide +kernel
theorem dX8_book_124 : decode cX8_book 124 = .ok (.bipush 30, 2) := by decide +kernel
theorem dX8_book_126 : decode cX8_book 126 = .ok (.irem, 1) := by decide +kernel
theorem dX8_book_127 : decode cX8_book 127 = .ok (.iadd, 1) := by decide +kernel
theorem dX8_book_128 : decode cX8_book 128 = .ok (.iaload, 1) := by decide +kernel
theorem dX8_book_129 : decode cX8_book 129 = .ok (.ireturn, 1) := by decide +kernel
theorem dX8_book_130 : decode cX8_book 130 = .ok (.bipush (-2), 2) := by decide +kernel
theorem dX8_book_132 : decode cX8_book 132 = .ok (.ireturn, 1) := by decide +kernel
theorem dX8_foretold_0 : decode cX8_foretold 0 = .ok (.iload_n 1, 1) := by decide +kernel
theorem dX8_foretold_1 : decode cX8_foretold 1 = .ok (.iconst 1, 1) := by decide +kernel
theorem dX8_foretold_2 : decode cX8_foretold 2 = .ok (.bipush 40, 2) := by decide +kernel
theorem dX8_foretold_4 : decode cX8_foretold 4 = .ok (.invokestatic 79, 3) := by decide +kernel
theorem dX8_foretold_7 : decode cX8_foretold 7 = .ok (.ifCond .eq 12, 3) := by decide +kernel
theorem dX8_foretold_10 : decode cX8_foretold 10 = .ok (.iload_n 2, 1) := by decide +kernel
theorem dX8_foretold_11 : decode cX8_foretold 11 = .ok (.iconst 0, 1) := by decide +kernel
theorem dX8_foretold_12 : decode cX8_foretold 12 = .ok (.iconst 2, 1) := by decide +kernel
theorem dX8_foretold_13 : decode cX8_foretold 13 = .ok (.invokestatic 79, 3) := by decide +kernel
theorem dX8_foretold_16 : decode cX8_foretold 16 = .ok (.ifCond .ne 5, 3) := by decide +kernel
theorem dX8_foretold_19 : decode cX8_foretold 19 = .ok (.iconst (-1), 1) := by decide +kernel
theorem dX8_foretold_20 : decode cX8_foretold 20 = .ok (.ireturn, 1) := by decide +kernel
theorem dX8_foretold_21 : decode cX8_foretold 21 = .ok (.aload_n 0, 1) := by decide +kernel
theorem dX8_foretold_22 : decode cX8_foretold 22 = .ok (.getfield 40, 3) := by decide +kernel
theorem dX8_foretold_25 : decode cX8_foretold 25 = .ok (.iload_n 1, 1) := by decide +kernel
theorem dX8_foretold_26 : decode cX8_foretold 26 = .ok (.iload_n 2, 1) := by decide +kernel
theorem dX8_foretold_27 : decode cX8_foretold 27 = .ok (.invokevirtual 216, 3) := by decide +kernel
theorem dX8_foretold_30 : decode cX8_foretold 30 = .ok (.ireturn, 1) := by decide +kernel
theorem dX8_cue_0 : decode cX8_cue 0 = .ok (.iload_n 1, 1) := by decide +kernel
theorem dX8_cue_1 : decode cX8_cue 1 = .ok (.iconst (-1), 1) := by decide +kernel
theorem dX8_cue_2 : decode cX8_cue 2 = .ok (.if_icmp .ne 13, 3) := by decide +kernel
theorem dX8_cue_5 : decode cX8_cue 5 = .ok (.aload_n 0, 1) := by decide +kernel
theorem dX8_cue_6 : decode cX8_cue 6 = .ok (.getfield 12, 3) := by decide +kernel
theorem dX8_cue_9 : decode cX8_cue 9 = .ok (.iconst 0, 1) := by decide +kernel
theorem dX8_cue_10 : decode cX8_cue 10 = .ok (.putfield 219, 3) := by decide +kernel
theorem dX8_cue_13 : decode cX8_cue 13 = .ok (.iconst 0, 1) := by decide +kernel
theorem dX8_cue_14 : decode cX8_cue 14 = .ok (.ireturn, 1) := by decide +kernel
theorem dX8_cue_15 : decode cX8_cue 15 = .ok (.iload_n 1, 1) := by decide +kernel
theorem dX8_cue_16 : decode cX8_cue 16 = .ok (.invokestatic 69, 3) := by decide +kernel
theorem dX8_cue_19 : decode cX8_cue 19 = .ok (.ifCond .eq 15, 3) := by decide +kernel
theorem dX8_cue_22 : decode cX8_cue 22 = .ok (.aload_n 0, 1) := by decide +kernel
theorem dX8_cue_23 : decode cX8_cue 23 = .ok (.getfield 12, 3) := by decide +kernel
theorem dX8_cue_26 : decode cX8_cue 26 = .ok (.getfield 219, 3) := by decide +kernel
theorem dX8_cue_29 : decode cX8_cue 29 = .ok (.bipush 12, 2) := by decide +kernel
theorem dX8_cue_31 : decode cX8_cue 31 = .ok (.if_icmp .lt 6, 3) := by decide +kernel
theorem dX8_cue_34 : decode cX8_cue 34 = .ok (.bipush (-2), 2) := by decide +kernel
theorem dX8_cue_36 : decode cX8_cue 36 = .ok (.ireturn, 1) := by decide +kernel
theorem dX8_cue_37 : decode cX8_cue 37 = .ok (.aload_n 0, 1) := by decide +kernel
theorem dX8_cue_38 : decode cX8_cue 38 = .ok (.getfield 12, 3) := by decide +kernel
theorem dX8_cue_41 : decode cX8_cue 41 = .ok (.getfield 222, 3) := by decide +kernel
theorem dX8_cue_44 : decode cX8_cue 44 = .ok (.aload_n 0, 1) := by decide +kernel
theorem dX8_cue_45 : decode cX8_cue 45 = .ok (.getfield 12, 3) := by decide +kernel
theorem dX8_cue_48 : decode cX8_cue 48 = .ok (.getfield 219, 3) := by decide +kernel
theorem dX8_cue_51 : decode cX8_cue 51 = .ok (.iload_n 1, 1) := by decide +kernel
theorem dX8_cue_52 : decode cX8_cue 52 = .ok (.iastore, 1) := by decide +kernel
theorem dX8_cue_53 : decode cX8_cue 53 = .ok (.aload_n 0, 1) := by decide +kernel
theorem dX8_cue_54 : decode cX8_cue 54 = .ok (.getfield 12, 3) := by decide +kernel
theorem dX8_cue_57 : decode cX8_cue 57 = .ok (.dup, 1) := by decide +kernel
theorem dX8_cue_58 : decode cX8_cue 58 = .ok (.getfield 219, 3) := by decide +kernel
theorem dX8_cue_61 : decode cX8_cue 61 = .ok (.iconst 1, 1) := by decide +kernel
theorem dX8_cue_62 : decode cX8_cue 62 = .ok (.iadd, 1) := by decide +kernel
theorem dX8_cue_63 : decode cX8_cue 63 = .ok (.putfield 219, 3) := by decide +kernel
theorem dX8_cue_66 : decode cX8_cue 66 = .ok (.aload_n 0, 1) := by decide +kernel
theorem dX8_cue_67 : decode cX8_cue 67 = .ok (.getfield 12, 3) := by decide +kernel
theorem dX8_cue_70 : decode cX8_cue 70 = .ok (.getfield 219, 3) := by decide +kernel
theorem dX8_cue_73 : decode cX8_cue 73 = .ok (.ireturn, 1) := by decide +kernel
theorem dX8_run_0 : decode cX8_run 0 = .ok (.iload_n 1, 1) := by decide +kernel
theorem dX8_run_1 : decode cX8_run 1 = .ok (.invokestatic 72, 3) := by decide +kernel
theorem dX8_run_4 : decode cX8_run 4 = .ok (.ifCond .eq 18, 3) := by decide +kernel
theorem dX8_run_7 : decode cX8_run 7 = .ok (.iload_n 2, 1) := by decide +kernel
theorem dX8_run_8 : decode cX8_run 8 = .ok (.iconst 0, 1) := by decide +kernel
theorem dX8_run_9 : decode cX8_run 9 = .ok (.aload_n 0, 1) := by decide +kernel
theorem dX8_run_10 : decode cX8_run 10 = .ok (.getfield 12, 3) := by decide +kernel
theorem dX8_run_13 : decode cX8_run 13 = .ok (.getfield 219, 3) := by decide +kernel
theorem dX8_run_16 : decode cX8_run 16 = .ok (.invokestatic 79, 3) := by decide +kernel
theorem dX8_run_19 : decode cX8_run 19 = .ok (.ifCond .ne 5, 3) := by decide +kernel
theorem dX8_run_22 : decode cX8_run 22 = .ok (.iconst (-1), 1) := by decide +kernel
theorem dX8_run_23 : decode cX8_run 23 = .ok (.ireturn, 1) := by decide +kernel
theorem dX8_run_24 : decode cX8_run 24 = .ok (.iload_n 1, 1) := by decide +kernel
theorem dX8_run_25 : decode cX8_run 25 = .ok (.istore_n 3, 1) := by decide +kernel
theorem dX8_run_26 : decode cX8_run 26 = .ok (.iconst 0, 1) := by decide +kernel
theorem dX8_run_27 : decode cX8_run 27 = .ok (.istore 4, 2) := by decide +kernel
theorem dX8_run_29 : decode cX8_run 29 = .ok (.iload 4, 2) := by decide +kernel
theorem dX8_run_31 : decode cX8_run 31 = .ok (.iload_n 2, 1) := by decide +kernel
theorem dX8_run_32 : decode cX8_run 32 = .ok (.if_icmp .ge 28, 3) := by decide +kernel
theorem dX8_run_35 : decode cX8_run 35 = .ok (.aload_n 0, 1) := by decide +kernel
theorem dX8_run_36 : decode cX8_run 36 = .ok (.getfield 12, 3) := by decide +kernel
theorem dX8_run_39 : decode cX8_run 39 = .ok (.iload_n 3, 1) := by decide +kernel
theorem dX8_run_40 : decode cX8_run 40 = .ok (.aload_n 0, 1) := by decide +kernel
theorem dX8_run_41 : decode cX8_run 41 = .ok (.getfield 12, 3) := by decide +kernel
theorem dX8_run_44 : decode cX8_run 44 = .ok (.getfield 222, 3) := by decide +kernel
theorem dX8_run_47 : decode cX8_run 47 = .ok (.iload 4, 2) := by decide +kernel
theorem dX8_run_49 : decode cX8_run 49 = .ok (.iaload, 1) := by decide +kernel
theorem dX8_run_50 : decode cX8_run 50 = .ok (.invokevirtual 201, 3) := by decide +kernel
theorem dX8_run_53 : decode cX8_run 53 = .ok (.istore_n 3, 1) := by decide +kernel
theorem dX8_run_54 : decode cX8_run 54 = .ok (.iinc 4 1, 3) := by decide +kernel
theorem dX8_run_57 : decode cX8_run 57 = .ok (.goto (-28), 3) := by decide +kernel
theorem dX8_run_60 : decode cX8_run 60 = .ok (.iload_n 3, 1) := by decide +kernel
theorem dX8_run_61 : decode cX8_run 61 = .ok (.ireturn, 1) := by decide +kernel
theorem dX8_shortest_0 : decode cX8_shortest 0 = .ok (.iload_n 1, 1) := by decide +kernel
theorem dX8_shortest_1 : decode cX8_shortest 1 = .ok (.invokestatic 72, 3) := by decide +kernel
theorem dX8_shortest_4 : decode cX8_shortest 4 = .ok (.ifCond .eq 23, 3) := by decide +kernel
theorem dX8_shortest_7 : decode cX8_shortest 7 = .ok (.iload_n 2, 1) := by decide +kernel
theorem dX8_shortest_8 : decode cX8_shortest 8 = .ok (.invokestatic 72, 3) := by decide +kernel
theorem dX8_shortest_11 : decode cX8_shortest 11 = .ok (.ifCond .eq 16, 3) := by decide +kernel
theorem dX8_shortest_14 : decode cX8_shortest 14 = .ok (.aload_n 0, 1) := by decide +kernel
theorem dX8_shortest_15 : decode cX8_shortest 15 = .ok (.getfield 47, 3) := by decide +kernel
theorem dX8_shortest_18 : decode cX8_shortest 18 = .ok (.iload_n 1, 1) := by decide +kernel
theorem dX8_shortest_19 : decode cX8_shortest 19 = .ok (.iload_n 2, 1) := by decide +kernel
theorem dX8_shortest_20 : decode cX8_shortest 20 = .ok (.iload_n 3, 1) := by decide +kernel
theorem dX8_shortest_21 : decode cX8_shortest 21 = .ok (.invokevirtual 225, 3) := by decide +kernel
theorem dX8_shortest_24 : decode cX8_shortest 24 = .ok (.goto 5, 3) := by decide +kernel
theorem dX8_shortest_27 : decode cX8_shortest 27 = .ok (.bipush (-2), 2) := by decide +kernel
theorem dX8_shortest_29 : decode cX8_shortest 29 = .ok (.ireturn, 1) := by decide +kernel
theorem dX8_soonest_0 : decode cX8_soonest 0 = .ok (.iload_n 1, 1) := by decide +kernel
theorem dX8_soonest_1 : decode cX8_soonest 1 = .ok (.invokestatic 72, 3) := by decide +kernel
theorem dX8_soonest_4 : decode cX8_soonest 4 = .ok (.ifCond .eq 15, 3) := by decide +kernel
theorem dX8_soonest_7 : decode cX8_soonest 7 = .ok (.aload_n 0, 1) := by decide +kernel
theorem dX8_soonest_8 : decode cX8_soonest 8 = .ok (.getfield 47, 3) := by decide +kernel
theorem dX8_soonest_11 : decode cX8_soonest 11 = .ok (.iload_n 1, 1) := by decide +kernel
theorem dX8_soonest_12 : decode cX8_soonest 12 = .ok (.iload_n 2, 1) := by decide +kernel
theorem dX8_soonest_13 : decode cX8_soonest 13 = .ok (.invokevirtual 228, 3) := by decide +kernel
theorem dX8_soonest_16 : decode cX8_soonest 16 = .ok (.goto 5, 3) := by decide +kernel
theorem dX8_soonest_19 : decode cX8_soonest 19 = .ok (.bipush (-2), 2) := by decide +kernel
theorem dX8_soonest_21 : decode cX8_soonest 21 = .ok (.ireturn, 1) := by decide +kernel
theorem dX8_best_0 : decode cX8_best 0 = .ok (.iload_n 1, 1) := by decide +kernel
theorem dX8_best_1 : decode cX8_best 1 = .ok (.invokestatic 72, 3) := by decide +kernel
theorem dX8_best_4 : decode cX8_best 4 = .ok (.ifCond .eq 15, 3) := by decide +kernel
theorem dX8_best_7 : decode cX8_best 7 = .ok (.aload_n 0, 1) := by decide +kernel
theorem dX8_best_8 : decode cX8_best 8 = .ok (.getfield 47, 3) := by decide +kernel
theorem dX8_best_11 : decode cX8_best 11 = .ok (.iload_n 1, 1) := by decide +kernel
theorem dX8_best_12 : decode cX8_best 12 = .ok (.iload_n 2, 1) := by decide +kernel
theorem dX8_best_13 : decode cX8_best 13 = .ok (.invokevirtual 232, 3) := by decide +kernel
theorem dX8_best_16 : decode cX8_best 16 = .ok (.goto 4, 3) := by decide +kernel
theorem dX8_best_19 : decode cX8_best 19 = .ok (.iconst (-1), 1) := by decide +kernel
theorem dX8_best_20 : decode cX8_best 20 = .ok (.ireturn, 1) := by decide +kernel
theorem dX8_odds_0 : decode cX8_odds 0 = .ok (.iload_n 1, 1) := by decide +kernel
theorem dX8_odds_1 : decode cX8_odds 1 = .ok (.invokestatic 72, 3) := by decide +kernel
theorem dX8_odds_4 : decode cX8_odds 4 = .ok (.ifCond .eq 26, 3) := by decide +kernel
theorem dX8_odds_7 : decode cX8_odds 7 = .ok (.iload_n 2, 1) := by decide +kernel
theorem dX8_odds_8 : decode cX8_odds 8 = .ok (.iconst 0, 1) := by decide +kernel
theorem dX8_odds_9 : decode cX8_odds 9 = .ok (.bipush 9, 2) := by decide +kernel
theorem dX8_odds_11 : decode cX8_odds 11 = .ok (.invokestatic 79, 3) := by decide +kernel
theorem dX8_odds_14 : decode cX8_odds 14 = .ok (.ifCond .eq 16, 3) := by decide +kernel
theorem dX8_odds_17 : decode cX8_odds 17 = .ok (.aload_n 0, 1) := by decide +kernel
theorem dX8_odds_18 : decode cX8_odds 18 = .ok (.getfield 47, 3) := by decide +kernel
theorem dX8_odds_21 : decode cX8_odds 21 = .ok (.iload_n 1, 1) := by decide +kernel
theorem dX8_odds_22 : decode cX8_odds 22 = .ok (.iload_n 2, 1) := by decide +kernel
theorem dX8_odds_23 : decode cX8_odds 23 = .ok (.iload_n 3, 1) := by decide +kernel
theorem dX8_odds_24 : decode cX8_odds 24 = .ok (.invokevirtual 235, 3) := by decide +kernel
theorem dX8_odds_27 : decode cX8_odds 27 = .ok (.goto 6, 3) := by decide +kernel
theorem dX8_odds_30 : decode cX8_odds 30 = .ok (.ldc2_w 239, 3) := by decide +kernel
theorem dX8_odds_33 : decode cX8_odds 33 = .ok (.lreturn, 1) := by decide +kernel
theorem dX8_weigh_0 : decode cX8_weigh 0 = .ok (.iload_n 1, 1) := by decide +kernel
theorem dX8_weigh_1 : decode cX8_weigh 1 = .ok (.iconst 0, 1) := by decide +kernel
theorem dX8_weigh_2 : decode cX8_weigh 2 = .ok (.bipush 10, 2) := by decide +kernel
theorem dX8_weigh_4 : decode cX8_weigh 4 = .ok (.invokestatic 79, 3) := by decide +kernel
theorem dX8_weigh_7 : decode cX8_weigh 7 = .ok (.ifCond .eq 38, 3) := by decide +kernel
theorem dX8_weigh_10 : decode cX8_weigh 10 = .ok (.iload_n 2, 1) := by decide +kernel
theorem dX8_weigh_11 : decode cX8_weigh 11 = .ok (.iconst 0, 1) := by decide +kernel
theorem dX8_weigh_12 : decode cX8_weigh 12 = .ok (.bipush 10, 2) := by decide +kernel
theorem dX8_weigh_14 : decode cX8_weigh 14 = .ok (.invokestatic 79, 3) := by decide +kernel
theorem dX8_weigh_17 : decode cX8_weigh 17 = .ok (.ifCond .eq 28, 3) := by decide +kernel
theorem dX8_weigh_20 : decode cX8_weigh 20 = .ok (.iload_n 3, 1) := by decide +kernel
theorem dX8_weigh_21 : decode cX8_weigh 21 = .ok (.iconst 0, 1) := by decide +kernel
theorem dX8_weigh_22 : decode cX8_weigh 22 = .ok (.bipush 10, 2) := by decide +kernel
theorem dX8_weigh_24 : decode cX8_weigh 24 = .ok (.invokestatic 79, 3) := by decide +kernel
theorem dX8_weigh_27 : decode cX8_weigh 27 = .ok (.ifCond .eq 18, 3) := by decide +kernel
theorem dX8_weigh_30 : decode cX8_weigh 30 = .ok (.iload 4, 2) := by decide +kernel
theorem dX8_weigh_32 : decode cX8_weigh 32 = .ok (.iconst 0, 1) := by decide +kernel
theorem dX8_weigh_33 : decode cX8_weigh 33 = .ok (.bipush 10, 2) := by decide +kernel
theorem dX8_weigh_35 : decode cX8_weigh 35 = .ok (.invokestatic 79, 3) := by decide +kernel
theorem dX8_weigh_38 : decode cX8_weigh 38 = .ok (.ifCond .eq 7, 3) := by decide +kernel
theorem dX8_weigh_41 : decode cX8_weigh 41 = .ok (.iconst 1, 1) := by decide +kernel
theorem dX8_weigh_42 : decode cX8_weigh 42 = .ok (.goto 4, 3) := by decide +kernel
theorem dX8_weigh_45 : decode cX8_weigh 45 = .ok (.iconst 0, 1) := by decide +kernel
theorem dX8_weigh_46 : decode cX8_weigh 46 = .ok (.istore 5, 2) := by decide +kernel
theorem dX8_weigh_48 : decode cX8_weigh 48 = .ok (.iload 5, 2) := by decide +kernel
theorem dX8_weigh_50 : decode cX8_weigh 50 = .ok (.ifCond .eq 16, 3) := by decide +kernel
theorem dX8_weigh_53 : decode cX8_weigh 53 = .ok (.iload_n 1, 1) := by decide +kernel
theorem dX8_weigh_54 : decode cX8_weigh 54 = .ok (.iload_n 2, 1) := by decide +kernel
theorem dX8_weigh_55 : decode cX8_weigh 55 = .ok (.iadd, 1) := by decide +kernel
theorem dX8_weigh_56 : decode cX8_weigh 56 = .ok (.iload_n 3, 1) := by decide +kernel
theorem dX8_weigh_57 : decode cX8_weigh 57 = .ok (.iadd, 1) := by decide +kernel
theorem dX8_weigh_58 : decode cX8_weigh 58 = .ok (.iload 4, 2) := by decide +kernel
theorem dX8_weigh_60 : decode cX8_weigh 60 = .ok (.iadd, 1) := by decide +kernel
theorem dX8_weigh_61 : decode cX8_weigh 61 = .ok (.bipush 10, 2) := by decide +kernel
theorem dX8_weigh_63 : decode cX8_weigh 63 = .ok (.if_icmp .eq 5, 3) := by decide +kernel
theorem dX8_weigh_66 : decode cX8_weigh 66 = .ok (.iconst 0, 1) := by decide +kernel
theorem dX8_weigh_67 : decode cX8_weigh 67 = .ok (.ireturn, 1) := by decide +kernel
theorem dX8_weigh_68 : decode cX8_weigh 68 = .ok (.aload_n 0, 1) := by decide +kernel
theorem dX8_weigh_69 : decode cX8_weigh 69 = .ok (.getfield 12, 3) := by decide +kernel
theorem dX8_weigh_72 : decode cX8_weigh 72 = .ok (.getfield 241, 3) := by decide +kernel
theorem dX8_weigh_75 : decode cX8_weigh 75 = .ok (.iconst 0, 1) := by decide +kernel
theorem dX8_weigh_76 : decode cX8_weigh 76 = .ok (.iload_n 1, 1) := by decide +kernel
theorem dX8_weigh_77 : decode cX8_weigh 77 = .ok (.iastore, 1) := by decide +kernel
theorem dX8_weigh_78 : decode cX8_weigh 78 = .ok (.aload_n 0, 1) := by decide +kernel
theorem dX8_weigh_79 : decode cX8_weigh 79 = .ok (.getfield 12, 3) := by decide +kernel
theorem dX8_weigh_82 : decode cX8_weigh 82 = .ok (.getfield 241, 3) := by decide +kernel
theorem dX8_weigh_85 : decode cX8_weigh 85 = .ok (.iconst 1, 1) := by decide +kernel
theorem dX8_weigh_86 : decode cX8_weigh 86 = .ok (.iload_n 2, 1) := by decide +kernel
theorem dX8_weigh_87 : decode cX8_weigh 87 = .ok (.iastore, 1) := by decide +kernel
theorem dX8_weigh_88 : decode cX8_weigh 88 = .ok (.aload_n 0, 1) := by decide +kernel
theorem dX8_weigh_89 : decode cX8_weigh 89 = .ok (.getfield 12, 3) := by decide +kernel
theorem dX8_weigh_92 : decode cX8_weigh 92 = .ok (.getfield 241, 3) := by decide +kernel
theorem dX8_weigh_95 : decode cX8_weigh 95 = .ok (.iconst 2, 1) := by decide +kernel
theorem dX8_weigh_96 : decode cX8_weigh 96 = .ok (.iload_n 3, 1) := by decide +kernel
theorem dX8_weigh_97 : decode cX8_weigh 97 = .ok (.iastore, 1) := by decide +kernel
theorem dX8_weigh_98 : decode cX8_weigh 98 = .ok (.aload_n 0, 1) := by decide +kernel
theorem dX8_weigh_99 : decode cX8_weigh 99 = .ok (.getfield 12, 3) := by decide +kernel
theorem dX8_weigh_102 : decode cX8_weigh 102 = .ok (.getfield 241, 3) := by decide +kernel
theorem dX8_weigh_105 : decode cX8_weigh 105 = .ok (.iconst 3, 1) := by decide +kernel
theorem dX8_weigh_106 : decode cX8_weigh 106 = .ok (.iload 4, 2) := by decide +kernel
theorem dX8_weigh_108 : decode cX8_weigh 108 = .ok (.iastore, 1) := by decide +kernel
theorem dX8_weigh_109 : decode cX8_weigh 109 = .ok (.iconst 1, 1) := by decide +kernel
theorem dX8_weigh_110 : decode cX8_weigh 110 = .ok (.ireturn, 1) := by decide +kernel
theorem dX8_kinds_0 : decode cX8_kinds 0 = .ok (.iload_n 1, 1) := by decide +kernel
theorem dX8_kinds_1 : decode cX8_kinds 1 = .ok (.iconst (-1), 1) := by decide +kernel
theorem dX8_kinds_2 : decode cX8_kinds 2 = .ok (.if_icmp .ne 11, 3) := by decide +kernel
theorem dX8_kinds_5 : decode cX8_kinds 5 = .ok (.aload_n 0, 1) := by decide +kernel
theorem dX8_kinds_6 : decode cX8_kinds 6 = .ok (.getfield 47, 3) := by decide +kernel
theorem dX8_kinds_9 : decode cX8_kinds 9 = .ok (.invokevirtual 244, 3) := by decide +kernel
theorem dX8_kinds_12 : decode cX8_kinds 12 = .ok (.ireturn, 1) := by decide +kernel
theorem dX8_kinds_13 : decode cX8_kinds 13 = .ok (.iload_n 1, 1) := by decide +kernel
theorem dX8_kinds_14 : decode cX8_kinds 14 = .ok (.invokestatic 72, 3) := by decide +kernel
theorem dX8_kinds_17 : decode cX8_kinds 17 = .ok (.ifCond .ne 6, 3) := by decide +kernel
theorem dX8_kinds_20 : decode cX8_kinds 20 = .ok (.bipush (-2), 2) := by decide +kernel
theorem dX8_kinds_22 : decode cX8_kinds 22 = .ok (.ireturn, 1) := by decide +kernel
theorem dX8_kinds_23 : decode cX8_kinds 23 = .ok (.aload_n 0, 1) := by decide +kernel
theorem dX8_kinds_24 : decode cX8_kinds 24 = .ok (.getfield 47, 3) := by decide +kernel
theorem dX8_kinds_27 : decode cX8_kinds 27 = .ok (.invokevirtual 244, 3) := by decide +kernel
theorem dX8_kinds_30 : decode cX8_kinds 30 = .ok (.pop, 1) := by decide +kernel
theorem dX8_kinds_31 : decode cX8_kinds 31 = .ok (.aload_n 0, 1) := by decide +kernel
theorem dX8_kinds_32 : decode cX8_kinds 32 = .ok (.getfield 47, 3) := by decide +kernel
theorem dX8_kinds_35 : decode cX8_kinds 35 = .ok (.getfield 247, 3) := by decide +kernel
theorem dX8_kinds_38 : decode cX8_kinds 38 = .ok (.iload_n 1, 1) := by decide +kernel
theorem dX8_kinds_39 : decode cX8_kinds 39 = .ok (.iaload, 1) := by decide +kernel
theorem dX8_kinds_40 : decode cX8_kinds 40 = .ok (.ireturn, 1) := by decide +kernel
theorem dX8_parts_0 : decode cX8_parts 0 = .ok (.iload_n 1, 1) := by decide +kernel
theorem dX8_parts_1 : decode cX8_parts 1 = .ok (.invokestatic 72, 3) := by decide +kernel
theorem dX8_parts_4 : decode cX8_parts 4 = .ok (.ifCond .eq 22, 3) := by decide +kernel
theorem dX8_parts_7 : decode cX8_parts 7 = .ok (.iload_n 2, 1) := by decide +kernel
theorem dX8_parts_8 : decode cX8_parts 8 = .ok (.invokestatic 72, 3) := by decide +kernel
theorem dX8_parts_11 : decode cX8_parts 11 = .ok (.ifCond .eq 15, 3) := by decide +kernel
theorem dX8_parts_14 : decode cX8_parts 14 = .ok (.aload_n 0, 1) := by decide +kernel
theorem dX8_parts_15 : decode cX8_parts 15 = .ok (.getfield 47, 3) := by decide +kernel
theorem dX8_parts_18 : decode cX8_parts 18 = .ok (.iload_n 1, 1) := by decide +kernel
theorem dX8_parts_19 : decode cX8_parts 19 = .ok (.iload_n 2, 1) := by decide +kernel
theorem dX8_parts_20 : decode cX8_parts 20 = .ok (.invokevirtual 250, 3) := by decide +kernel
theorem dX8_parts_23 : decode cX8_parts 23 = .ok (.goto 4, 3) := by decide +kernel
theorem dX8_parts_26 : decode cX8_parts 26 = .ok (.iconst (-1), 1) := by decide +kernel
theorem dX8_parts_27 : decode cX8_parts 27 = .ok (.ireturn, 1) := by decide +kernel
theorem dX8_round_0 : decode cX8_round 0 = .ok (.iload_n 1, 1) := by decide +kernel
theorem dX8_round_1 : decode cX8_round 1 = .ok (.invokestatic 65, 3) := by decide +kernel
theorem dX8_round_4 : decode cX8_round 4 = .ok (.ifCond .ne 5, 3) := by decide +kernel
theorem dX8_round_7 : decode cX8_round 7 = .ok (.iconst (-1), 1) := by decide +kernel
theorem dX8_round_8 : decode cX8_round 8 = .ok (.ireturn, 1) := by decide +kernel
theorem dX8_round_9 : decode cX8_round 9 = .ok (.aload_n 0, 1) := by decide +kernel
theorem dX8_round_10 : decode cX8_round 10 = .ok (.getfield 47, 3) := by decide +kernel
theorem dX8_round_13 : decode cX8_round 13 = .ok (.iload_n 1, 1) := by decide +kernel
theorem dX8_round_14 : decode cX8_round 14 = .ok (.invokevirtual 253, 3) := by decide +kernel
theorem dX8_round_17 : decode cX8_round 17 = .ok (.ifCond .eq 7, 3) := by decide +kernel
theorem dX8_round_20 : decode cX8_round 20 = .ok (.iconst 1, 1) := by decide +kernel
theorem dX8_round_21 : decode cX8_round 21 = .ok (.goto 4, 3) := by decide +kernel
theorem dX8_round_24 : decode cX8_round 24 = .ok (.iconst 0, 1) := by decide +kernel
theorem dX8_round_25 : decode cX8_round 25 = .ok (.ireturn, 1) := by decide +kernel
theorem dX8_dead_0 : decode cX8_dead 0 = .ok (.aload_n 0, 1) := by decide +kernel
theorem dX8_dead_1 : decode cX8_dead 1 = .ok (.getfield 47, 3) := by decide +kernel
theorem dX8_dead_4 : decode cX8_dead 4 = .ok (.invokevirtual 256, 3) := by decide +kernel
theorem dX8_dead_7 : decode cX8_dead 7 = .ok (.ireturn, 1) := by decide +kernel
theorem dX8_far_0 : decode cX8_far 0 = .ok (.aload_n 0, 1) := by decide +kernel
theorem dX8_far_1 : decode cX8_far 1 = .ok (.getfield 47, 3) := by decide +kernel
theorem dX8_far_4 : decode cX8_far 4 = .ok (.invokevirtual 259, 3) := by decide +kernel
theorem dX8_far_7 : decode cX8_far 7 = .ok (.ireturn, 1) := by decide +kernel
theorem dX8_look_0 : decode cX8_look 0 = .ok (.iload_n 1, 1) := by decide +kernel
theorem dX8_look_1 : decode cX8_look 1 = .ok (.iconst (-1), 1) := by decide +kernel
theorem dX8_look_2 : decode cX8_look 2 = .ok (.if_icmp .ne 21, 3) := by decide +kernel
theorem dX8_look_5 : decode cX8_look 5 = .ok (.aload_n 0, 1) := by decide +kernel
theorem dX8_look_6 : decode cX8_look 6 = .ok (.getfield 12, 3) := by decide +kernel
theorem dX8_look_9 : decode cX8_look 9 = .ok (.sipush 4095, 3) := by decide +kernel
theorem dX8_look_12 : decode cX8_look 12 = .ok (.putfield 262, 3) := by decide +kernel
theorem dX8_look_15 : decode cX8_look 15 = .ok (.aload_n 0, 1) := by decide +kernel
theorem dX8_look_16 : decode cX8_look 16 = .ok (.getfield 12, 3) := by decide +kernel
theorem dX8_look_19 : decode cX8_look 19 = .ok (.getfield 262, 3) := by decide +kernel
theorem dX8_look_22 : decode cX8_look 22 = .ok (.ireturn, 1) := by decide +kernel
theorem dX8_look_23 : decode cX8_look 23 = .ok (.iload_n 1, 1) := by decide +kernel
theorem dX8_look_24 : decode cX8_look 24 = .ok (.iconst 0, 1) := by decide +kernel
theorem dX8_look_25 : decode cX8_look 25 = .ok (.iconst 3, 1) := by decide +kernel
theorem dX8_look_26 : decode cX8_look 26 = .ok (.invokestatic 79, 3) := by decide +kernel
theorem dX8_look_29 : decode cX8_look 29 = .ok (.ifCond .eq 14, 3) := by decide +kernel
theorem dX8_look_32 : decode cX8_look 32 = .ok (.aload_n 0, 1) := by decide +kernel
theorem dX8_look_33 : decode cX8_look 33 = .ok (.getfield 54, 3) := by decide +kernel
theorem dX8_look_36 : decode cX8_look 36 = .ok (.iload_n 1, 1) := by decide +kernel
theorem dX8_look_37 : decode cX8_look 37 = .ok (.invokevirtual 264, 3) := by decide +kernel
theorem dX8_look_40 : decode cX8_look 40 = .ok (.goto 5, 3) := by decide +kernel
theorem dX8_look_43 : decode cX8_look 43 = .ok (.bipush (-2), 2) := by decide +kernel
theorem dX8_look_45 : decode cX8_look 45 = .ok (.ireturn, 1) := by decide +kernel
theorem dX8_sure_0 : decode cX8_sure 0 = .ok (.aload_n 0, 1) := by decide +kernel
theorem dX8_sure_1 : decode cX8_sure 1 = .ok (.getfield 54, 3) := by decide +kernel
theorem dX8_sure_4 : decode cX8_sure 4 = .ok (.invokevirtual 267, 3) := by decide +kernel
theorem dX8_sure_7 : decode cX8_sure 7 = .ok (.ireturn, 1) := by decide +kernel
theorem dX8_tells_0 : decode cX8_tells 0 = .ok (.aload_n 0, 1) := by decide +kernel
theorem dX8_tells_1 : decode cX8_tells 1 = .ok (.getfield 54, 3) := by decide +kernel
theorem dX8_tells_4 : decode cX8_tells 4 = .ok (.invokevirtual 270, 3) := by decide +kernel
theorem dX8_tells_7 : decode cX8_tells 7 = .ok (.ireturn, 1) := by decide +kernel
theorem dX8_ways_0 : decode cX8_ways 0 = .ok (.iload_n 1, 1) := by decide +kernel
theorem dX8_ways_1 : decode cX8_ways 1 = .ok (.invokestatic 72, 3) := by decide +kernel
theorem dX8_ways_4 : decode cX8_ways 4 = .ok (.ifCond .eq 25, 3) := by decide +kernel
theorem dX8_ways_7 : decode cX8_ways 7 = .ok (.iload_n 2, 1) := by decide +kernel
theorem dX8_ways_8 : decode cX8_ways 8 = .ok (.iconst 0, 1) := by decide +kernel
theorem dX8_ways_9 : decode cX8_ways 9 = .ok (.bipush 12, 2) := by decide +kernel
theorem dX8_ways_11 : decode cX8_ways 11 = .ok (.invokestatic 79, 3) := by decide +kernel
theorem dX8_ways_14 : decode cX8_ways 14 = .ok (.ifCond .eq 15, 3) := by decide +kernel
theorem dX8_ways_17 : decode cX8_ways 17 = .ok (.aload_n 0, 1) := by decide +kernel
theorem dX8_ways_18 : decode cX8_ways 18 = .ok (.getfield 47, 3) := by decide +kernel
theorem dX8_ways_21 : decode cX8_ways 21 = .ok (.iload_n 1, 1) := by decide +kernel
theorem dX8_ways_22 : decode cX8_ways 22 = .ok (.iload_n 2, 1) := by decide +kernel
theorem dX8_ways_23 : decode cX8_ways 23 = .ok (.invokevirtual 273, 3) := by decide +kernel
theorem dX8_ways_26 : decode cX8_ways 26 = .ok (.goto 6, 3) := by decide +kernel
theorem dX8_ways_29 : decode cX8_ways 29 = .ok (.ldc2_w 239, 3) := by decide +kernel
theorem dX8_ways_32 : decode cX8_ways 32 = .ok (.lreturn, 1) := by decide +kernel
theorem dX8_likes_0 : decode cX8_likes 0 = .ok (.iload_n 1, 1) := by decide +kernel
theorem dX8_likes_1 : decode cX8_likes 1 = .ok (.iconst 0, 1) := by decide +kernel
theorem dX8_likes_2 : decode cX8_likes 2 = .ok (.bipush 7, 2) := by decide +kernel
theorem dX8_likes_4 : decode cX8_likes 4 = .ok (.invokestatic 79, 3) := by decide +kernel
theorem dX8_likes_7 : decode cX8_likes 7 = .ok (.ifCond .eq 22, 3) := by decide +kernel
theorem dX8_likes_10 : decode cX8_likes 10 = .ok (.iload_n 2, 1) := by decide +kernel
theorem dX8_likes_11 : decode cX8_likes 11 = .ok (.iconst 0, 1) := by decide +kernel
theorem dX8_likes_12 : decode cX8_likes 12 = .ok (.iconst 4, 1) := by decide +kernel
theorem dX8_likes_13 : decode cX8_likes 13 = .ok (.invokestatic 79, 3) := by decide +kernel
theorem dX8_likes_16 : decode cX8_likes 16 = .ok (.ifCond .eq 13, 3) := by decide +kernel
theorem dX8_likes_19 : decode cX8_likes 19 = .ok (.iload_n 3, 1) := by decide +kernel
theorem dX8_likes_20 : decode cX8_likes 20 = .ok (.iconst 0, 1) := by decide +kernel
theorem dX8_likes_21 : decode cX8_likes 21 = .ok (.bipush 99, 2) := by decide +kernel
theorem dX8_likes_23 : decode cX8_likes 23 = .ok (.invokestatic 79, 3) := by decide +kernel
theorem dX8_likes_26 : decode cX8_likes 26 = .ok (.ifCond .ne 5, 3) := by decide +kernel
theorem dX8_likes_29 : decode cX8_likes 29 = .ok (.iconst 0, 1) := by decide +kernel
theorem dX8_likes_30 : decode cX8_likes 30 = .ok (.ireturn, 1) := by decide +kernel
theorem dX8_likes_31 : decode cX8_likes 31 = .ok (.aload_n 0, 1) := by decide +kernel
theorem dX8_likes_32 : decode cX8_likes 32 = .ok (.getfield 12, 3) := by decide +kernel
theorem dX8_likes_35 : decode cX8_likes 35 = .ok (.getfield 277, 3) := by decide +kernel
theorem dX8_likes_38 : decode cX8_likes 38 = .ok (.iload_n 1, 1) := by decide +kernel
theorem dX8_likes_39 : decode cX8_likes 39 = .ok (.iconst 5, 1) := by decide +kernel
theorem dX8_likes_40 : decode cX8_likes 40 = .ok (.imul, 1) := by decide +kernel
theorem dX8_likes_41 : decode cX8_likes 41 = .ok (.iload_n 2, 1) := by decide +kernel
theorem dX8_likes_42 : decode cX8_likes 42 = .ok (.iadd, 1) := by decide +kernel
theorem dX8_likes_43 : decode cX8_likes 43 = .ok (.iload_n 3, 1) := by decide +kernel
theorem dX8_likes_44 : decode cX8_likes 44 = .ok (.iastore, 1) := by decide +kernel
theorem dX8_likes_45 : decode cX8_likes 45 = .ok (.iconst 1, 1) := by decide +kernel
theorem dX8_likes_46 : decode cX8_likes 46 = .ok (.ireturn, 1) := by decide +kernel
theorem dX8_roster_0 : decode cX8_roster 0 = .ok (.iload_n 1, 1) := by decide +kernel
theorem dX8_roster_1 : decode cX8_roster 1 = .ok (.iconst 1, 1) := by decide +kernel
theorem dX8_roster_2 : decode cX8_roster 2 = .ok (.bipush 8, 2) := by decide +kernel
theorem dX8_roster_4 : decode cX8_roster 4 = .ok (.invokestatic 79, 3) := by decide +kernel
theorem dX8_roster_7 : decode cX8_roster 7 = .ok (.ifCond .eq 16, 3) := by decide +kernel
theorem dX8_roster_10 : decode cX8_roster 10 = .ok (.aload_n 0, 1) := by decide +kernel
theorem dX8_roster_11 : decode cX8_roster 11 = .ok (.getfield 12, 3) := by decide +kernel
theorem dX8_roster_14 : decode cX8_roster 14 = .ok (.getfield 280, 3) := by decide +kernel
theorem dX8_roster_17 : decode cX8_roster 17 = .ok (.iload_n 1, 1) := by decide +kernel
theorem dX8_roster_18 : decode cX8_roster 18 = .ok (.iconst 5, 1) := by decide +kernel
theorem dX8_roster_19 : decode cX8_roster 19 = .ok (.imul, 1) := by decide +kernel
theorem dX8_roster_20 : decode cX8_roster 20 = .ok (.if_icmp .le 5, 3) := by decide +kernel
theorem dX8_roster_23 : decode cX8_roster 23 = .ok (.iconst (-1), 1) := by decide +kernel
theorem dX8_roster_24 : decode cX8_roster 24 = .ok (.ireturn, 1) := by decide +kernel
theorem dX8_roster_25 : decode cX8_roster 25 = .ok (.iload_n 2, 1) := by decide +kernel
theorem dX8_roster_26 : decode cX8_roster 26 = .ok (.iconst (-1), 1) := by decide +kernel
theorem dX8_roster_27 : decode cX8_roster 27 = .ok (.if_icmp .eq 16, 3) := by decide +kernel
theorem dX8_roster_30 : decode cX8_roster 30 = .ok (.aload_n 0, 1) := by decide +kernel
theorem dX8_roster_31 : decode cX8_roster 31 = .ok (.getfield 12, 3) := by decide +kernel
theorem dX8_roster_34 : decode cX8_roster 34 = .ok (.iload_n 2, 1) := by decide +kernel
theorem dX8_roster_35 : decode cX8_roster 35 = .ok (.invokevirtual 135, 3) := by decide +kernel
theorem dX8_roster_38 : decode cX8_roster 38 = .ok (.ifCond .ne 5, 3) := by decide +kernel
theorem dX8_roster_41 : decode cX8_roster 41 = .ok (.iconst (-1), 1) := by decide +kernel
theorem dX8_roster_42 : decode cX8_roster 42 = .ok (.ireturn, 1) := by decide +kernel
theorem dX8_roster_43 : decode cX8_roster 43 = .ok (.aload_n 0, 1) := by decide +kernel
theorem dX8_roster_44 : decode cX8_roster 44 = .ok (.getfield 61, 3) := by decide +kernel
theorem dX8_roster_47 : decode cX8_roster 47 = .ok (.iload_n 1, 1) := by decide +kernel
theorem dX8_roster_48 : decode cX8_roster 48 = .ok (.invokevirtual 283, 3) := by decide +kernel
theorem dX8_roster_51 : decode cX8_roster 51 = .ok (.iload_n 2, 1) := by decide +kernel
theorem dX8_roster_52 : decode cX8_roster 52 = .ok (.iconst (-1), 1) := by decide +kernel
theorem dX8_roster_53 : decode cX8_roster 53 = .ok (.if_icmp .ne 13, 3) := by decide +kernel
theorem dX8_roster_56 : decode cX8_roster 56 = .ok (.aload_n 0, 1) := by decide +kernel
theorem dX8_roster_57 : decode cX8_roster 57 = .ok (.getfield 61, 3) := by decide +kernel
theorem dX8_roster_60 : decode cX8_roster 60 = .ok (.invokevirtual 286, 3) := by decide +kernel
theorem dX8_roster_63 : decode cX8_roster 63 = .ok (.goto 12, 3) := by decide +kernel
theorem dX8_roster_66 : decode cX8_roster 66 = .ok (.aload_n 0, 1) := by decide +kernel
theorem dX8_roster_67 : decode cX8_roster 67 = .ok (.getfield 61, 3) := by decide +kernel
theorem dX8_roster_70 : decode cX8_roster 70 = .ok (.getfield 289, 3) := by decide +kernel
theorem dX8_roster_73 : decode cX8_roster 73 = .ok (.iload_n 2, 1) := by decide +kernel
theorem dX8_roster_74 : decode cX8_roster 74 = .ok (.iaload, 1) := by decide +kernel
theorem dX8_roster_75 : decode cX8_roster 75 = .ok (.ireturn, 1) := by decide +kernel
theorem dX8_felt_0 : decode cX8_felt 0 = .ok (.iload_n 1, 1) := by decide +kernel
theorem dX8_felt_1 : decode cX8_felt 1 = .ok (.iconst (-1), 1) := by decide +kernel
theorem dX8_felt_2 : decode cX8_felt 2 = .ok (.if_icmp .ne 13, 3) := by decide +kernel
theorem dX8_felt_5 : decode cX8_felt 5 = .ok (.aload_n 0, 1) := by decide +kernel
theorem dX8_felt_6 : decode cX8_felt 6 = .ok (.getfield 12, 3) := by decide +kernel
theorem dX8_felt_9 : decode cX8_felt 9 = .ok (.iconst 0, 1) := by decide +kernel
theorem dX8_felt_10 : decode cX8_felt 10 = .ok (.putfield 292, 3) := by decide +kernel
theorem dX8_felt_13 : decode cX8_felt 13 = .ok (.iconst 0, 1) := by decide +kernel
theorem dX8_felt_14 : decode cX8_felt 14 = .ok (.ireturn, 1) := by decide +kernel
theorem dX8_felt_15 : decode cX8_felt 15 = .ok (.aload_n 0, 1) := by decide +kernel
theorem dX8_felt_16 : decode cX8_felt 16 = .ok (.getfield 12, 3) := by decide +kernel
theorem dX8_felt_19 : decode cX8_felt 19 = .ok (.iload_n 1, 1) := by decide +kernel
theorem dX8_felt_20 : decode cX8_felt 20 = .ok (.invokevirtual 135, 3) := by decide +kernel
theorem dX8_felt_23 : decode cX8_felt 23 = .ok (.ifCond .eq 25, 3) := by decide +kernel
theorem dX8_felt_26 : decode cX8_felt 26 = .ok (.iload_n 2, 1) := by decide +kernel
theorem dX8_felt_27 : decode cX8_felt 27 = .ok (.iconst 0, 1) := by decide +kernel
theorem dX8_felt_28 : decode cX8_felt 28 = .ok (.bipush 99, 2) := by decide +kernel
theorem dX8_felt_30 : decode cX8_felt 30 = .ok (.invokestatic 79, 3) := by decide +kernel
theorem dX8_felt_33 : decode cX8_felt 33 = .ok (.ifCond .eq 15, 3) := by decide +kernel
theorem dX8_felt_36 : decode cX8_felt 36 = .ok (.aload_n 0, 1) := by decide +kernel
theorem dX8_felt_37 : decode cX8_felt 37 = .ok (.getfield 12, 3) := by decide +kernel
theorem dX8_felt_40 : decode cX8_felt 40 = .ok (.getfield 292, 3) := by decide +kernel
theorem dX8_felt_43 : decode cX8_felt 43 = .ok (.bipush 8, 2) := by decide +kernel
theorem dX8_felt_45 : decode cX8_felt 45 = .ok (.if_icmp .lt 6, 3) := by decide +kernel
theorem dX8_felt_48 : decode cX8_felt 48 = .ok (.bipush (-2), 2) := by decide +kernel
theorem dX8_felt_50 : decode cX8_felt 50 = .ok (.ireturn, 1) := by decide +kernel
theorem dX8_felt_51 : decode cX8_felt 51 = .ok (.aload_n 0, 1) := by decide +kernel
theorem dX8_felt_52 : decode cX8_felt 52 = .ok (.getfield 12, 3) := by decide +kernel
theorem dX8_felt_55 : decode cX8_felt 55 = .ok (.getfield 295, 3) := by decide +kernel
theorem dX8_felt_58 : decode cX8_felt 58 = .ok (.aload_n 0, 1) := by decide +kernel
theorem dX8_felt_59 : decode cX8_felt 59 = .ok (.getfield 12, 3) := by decide +kernel
theorem dX8_felt_62 : decode cX8_felt 62 = .ok (.getfield 292, 3) := by decide +kernel
theorem dX8_felt_65 : decode cX8_felt 65 = .ok (.iload_n 1, 1) := by decide +kernel
theorem dX8_felt_66 : decode cX8_felt 66 = .ok (.iastore, 1) := by decide +kernel
theorem dX8_felt_67 : decode cX8_felt 67 = .ok (.aload_n 0, 1) := by decide +kernel
theorem dX8_felt_68 : decode cX8_felt 68 = .ok (.getfield 12, 3) := by decide +kernel
theorem dX8_felt_71 : decode cX8_felt 71 = .ok (.getfield 298, 3) := by decide +kernel
theorem dX8_felt_74 : decode cX8_felt 74 = .ok (.aload_n 0, 1) := by decide +kernel
theorem dX8_felt_75 : decode cX8_felt 75 = .ok (.getfield 12, 3) := by decide +kernel
theorem dX8_felt_78 : decode cX8_felt 78 = .ok (.getfield 292, 3) := by decide +kernel
theorem dX8_felt_81 : decode cX8_felt 81 = .ok (.iload_n 2, 1) := by decide +kernel
theorem dX8_felt_82 : decode cX8_felt 82 = .ok (.iastore, 1) := by decide +kernel
theorem dX8_felt_83 : decode cX8_felt 83 = .ok (.aload_n 0, 1) := by decide +kernel
theorem dX8_felt_84 : decode cX8_felt 84 = .ok (.getfield 12, 3) := by decide +kernel
theorem dX8_felt_87 : decode cX8_felt 87 = .ok (.dup, 1) := by decide +kernel
theorem dX8_felt_88 : decode cX8_felt 88 = .ok (.getfield 292, 3) := by decide +kernel
theorem dX8_felt_91 : decode cX8_felt 91 = .ok (.iconst 1, 1) := by decide +kernel
theorem dX8_felt_92 : decode cX8_felt 92 = .ok (.iadd, 1) := by decide +kernel
theorem dX8_felt_93 : decode cX8_felt 93 = .ok (.putfield 292, 3) := by decide +kernel
theorem dX8_felt_96 : decode cX8_felt 96 = .ok (.aload_n 0, 1) := by decide +kernel
theorem dX8_felt_97 : decode cX8_felt 97 = .ok (.getfield 12, 3) := by decide +kernel
theorem dX8_felt_100 : decode cX8_felt 100 = .ok (.getfield 292, 3) := by decide +kernel
theorem dX8_felt_103 : decode cX8_felt 103 = .ok (.ireturn, 1) := by decide +kernel
theorem dX8_whose_0 : decode cX8_whose 0 = .ok (.aload_n 0, 1) := by decide +kernel
theorem dX8_whose_1 : decode cX8_whose 1 = .ok (.getfield 31, 3) := by decide +kernel
theorem dX8_whose_4 : decode cX8_whose 4 = .ok (.invokevirtual 194, 3) := by decide +kernel
theorem dX8_whose_7 : decode cX8_whose 7 = .ok (.iconst 0, 1) := by decide +kernel
theorem dX8_whose_8 : decode cX8_whose 8 = .ok (.istore_n 1, 1) := by decide +kernel
theorem dX8_whose_9 : decode cX8_whose 9 = .ok (.iconst 0, 1) := by decide +kernel
theorem dX8_whose_10 : decode cX8_whose 10 = .ok (.istore_n 2, 1) := by decide +kernel
theorem dX8_whose_11 : decode cX8_whose 11 = .ok (.iload_n 2, 1) := by decide +kernel
theorem dX8_whose_12 : decode cX8_whose 12 = .ok (.aload_n 0, 1) := by decide +kernel
theorem dX8_whose_13 : decode cX8_whose 13 = .ok (.getfield 12, 3) := by decide +kernel
theorem dX8_whose_16 : decode cX8_whose 16 = .ok (.getfield 102, 3) := by decide +kernel
theorem dX8_whose_19 : decode cX8_whose 19 = .ok (.if_icmp .ge 26, 3) := by decide +kernel
theorem dX8_whose_22 : decode cX8_whose 22 = .ok (.aload_n 0, 1) := by decide +kernel
theorem dX8_whose_23 : decode cX8_whose 23 = .ok (.getfield 31, 3) := by decide +kernel
theorem dX8_whose_26 : decode cX8_whose 26 = .ok (.iload_n 2, 1) := by decide +kernel
theorem dX8_whose_27 : decode cX8_whose 27 = .ok (.invokevirtual 301, 3) := by decide +kernel
theorem dX8_whose_30 : decode cX8_whose 30 = .ok (.ifCond .eq 9, 3) := by decide +kernel
theorem dX8_whose_33 : decode cX8_whose 33 = .ok (.iload_n 1, 1) := by decide +kernel
theorem dX8_whose_34 : decode cX8_whose 34 = .ok (.iconst 1, 1) := by decide +kernel
theorem dX8_whose_35 : decode cX8_whose 35 = .ok (.iload_n 2, 1) := by decide +kernel
theorem dX8_whose_36 : decode cX8_whose 36 = .ok (.ishl, 1) := by decide +kernel
theorem dX8_whose_37 : decode cX8_whose 37 = .ok (.ior, 1) := by decide +kernel
theorem dX8_whose_38 : decode cX8_whose 38 = .ok (.istore_n 1, 1) := by decide +kernel
theorem dX8_whose_39 : decode cX8_whose 39 = .ok (.iinc 2 1, 3) := by decide +kernel
theorem dX8_whose_42 : decode cX8_whose 42 = .ok (.goto (-31), 3) := by decide +kernel
theorem dX8_whose_45 : decode cX8_whose 45 = .ok (.iload_n 1, 1) := by decide +kernel
theorem dX8_whose_46 : decode cX8_whose 46 = .ok (.ireturn, 1) := by decide +kernel
theorem dX8_gladdest_0 : decode cX8_gladdest 0 = .ok (.iconst (-1), 1) := by decide +kernel
theorem dX8_gladdest_1 : decode cX8_gladdest 1 = .ok (.istore_n 1, 1) := by decide +kernel
theorem dX8_gladdest_2 : decode cX8_gladdest 2 = .ok (.iconst 0, 1) := by decide +kernel
theorem dX8_gladdest_3 : decode cX8_gladdest 3 = .ok (.istore_n 2, 1) := by decide +kernel
theorem dX8_gladdest_4 : decode cX8_gladdest 4 = .ok (.iload_n 2, 1) := by decide +kernel
theorem dX8_gladdest_5 : decode cX8_gladdest 5 = .ok (.aload_n 0, 1) := by decide +kernel
theorem dX8_gladdest_6 : decode cX8_gladdest 6 = .ok (.getfield 12, 3) := by decide +kernel
theorem dX8_gladdest_9 : decode cX8_gladdest 9 = .ok (.getfield 280, 3) := by decide +kernel
theorem dX8_gladdest_12 : decode cX8_gladdest 12 = .ok (.if_icmp .ge 43, 3) := by decide +kernel
theorem dX8_gladdest_15 : decode cX8_gladdest 15 = .ok (.iload_n 1, 1) := by decide +kernel
theorem dX8_gladdest_16 : decode cX8_gladdest 16 = .ok (.iconst (-1), 1) := by decide +kernel
theorem dX8_gladdest_17 : decode cX8_gladdest 17 = .ok (.if_icmp .eq 30, 3) := by decide +kernel
theorem dX8_gladdest_20 : decode cX8_gladdest 20 = .ok (.aload_n 0, 1) := by decide +kernel
theorem dX8_gladdest_21 : decode cX8_gladdest 21 = .ok (.getfield 12, 3) := by decide +kernel
theorem dX8_gladdest_24 : decode cX8_gladdest 24 = .ok (.getfield 181, 3) := by decide +kernel
theorem dX8_gladdest_27 : decode cX8_gladdest 27 = .ok (.bipush 8, 2) := by decide +kernel
theorem dX8_gladdest_29 : decode cX8_gladdest 29 = .ok (.iload_n 2, 1) := by decide +kernel
theorem dX8_gladdest_30 : decode cX8_gladdest 30 = .ok (.iadd, 1) := by decide +kernel
theorem dX8_gladdest_31 : decode cX8_gladdest 31 = .ok (.iaload, 1) := by decide +kernel
theorem dX8_gladdest_32 : decode cX8_gladdest 32 = .ok (.aload_n 0, 1) := by decide +kernel
theorem dX8_gladdest_33 : decode cX8_gladdest 33 = .ok (.getfield 12, 3) := by decide +kernel
theorem dX8_gladdest_36 : decode cX8_gladdest 36 = .ok (.getfield 181, 3) := by decide +kernel
theorem dX8_gladdest_39 : decode cX8_gladdest 39 = .ok (.bipush 8, 2) := by decide +kernel
theorem dX8_gladdest_41 : decode cX8_gladdest 41 = .ok (.iload_n 1, 1) := by decide +kernel
theorem dX8_gladdest_42 : decode cX8_gladdest 42 = .ok (.iadd, 1) := by decide +kernel
theorem dX8_gladdest_43 : decode cX8_gladdest 43 = .ok (.iaload, 1) := by decide +kernel
theorem dX8_gladdest_44 : decode cX8_gladdest 44 = .ok (.if_icmp .le 5, 3) := by decide +kernel
theorem dX8_gladdest_47 : decode cX8_gladdest 47 = .ok (.iload_n 2, 1) := by decide +kernel
theorem dX8_gladdest_48 : decode cX8_gladdest 48 = .ok (.istore_n 1, 1) := by decide +kernel
theorem dX8_gladdest_49 : decode cX8_gladdest 49 = .ok (.iinc 2 1, 3) := by decide +kernel
theorem dX8_gladdest_52 : decode cX8_gladdest 52 = .ok (.goto (-48), 3) := by decide +kernel
theorem dX8_gladdest_55 : decode cX8_gladdest 55 = .ok (.iload_n 1, 1) := by decide +kernel
theorem dX8_gladdest_56 : decode cX8_gladdest 56 = .ok (.ireturn, 1) := by decide +kernel
theorem dX8_often_0 : decode cX8_often 0 = .ok (.iconst 0, 1) := by decide +kernel
theorem dX8_often_1 : decode cX8_often 1 = .ok (.istore_n 1, 1) := by decide +kernel
theorem dX8_often_2 : decode cX8_often 2 = .ok (.iconst 1, 1) := by decide +kernel
theorem dX8_often_3 : decode cX8_often 3 = .ok (.istore_n 2, 1) := by decide +kernel
theorem dX8_often_4 : decode cX8_often 4 = .ok (.iload_n 2, 1) := by decide +kernel
theorem dX8_often_5 : decode cX8_often 5 = .ok (.bipush 12, 2) := by decide +kernel
theorem dX8_often_7 : decode cX8_often 7 = .ok (.if_icmp .ge 38, 3) := by decide +kernel
theorem dX8_often_10 : decode cX8_often 10 = .ok (.aload_n 0, 1) := by decide +kernel
theorem dX8_often_11 : decode cX8_often 11 = .ok (.getfield 12, 3) := by decide +kernel
theorem dX8_often_14 : decode cX8_often 14 = .ok (.getfield 181, 3) := by decide +kernel
theorem dX8_often_17 : decode cX8_often 17 = .ok (.bipush 28, 2) := by decide +kernel
theorem dX8_often_19 : decode cX8_often 19 = .ok (.iload_n 2, 1) := by decide +kernel
theorem dX8_often_20 : decode cX8_often 20 = .ok (.iadd, 1) := by decide +kernel
theorem dX8_often_21 : decode cX8_often 21 = .ok (.iaload, 1) := by decide +kernel
theorem dX8_often_22 : decode cX8_often 22 = .ok (.aload_n 0, 1) := by decide +kernel
theorem dX8_often_23 : decode cX8_often 23 = .ok (.getfield 12, 3) := by decide +kernel
theorem dX8_often_26 : decode cX8_often 26 = .ok (.getfield 181, 3) := by decide +kernel
theorem dX8_often_29 : decode cX8_often 29 = .ok (.bipush 28, 2) := by decide +kernel
theorem dX8_often_31 : decode cX8_often 31 = .ok (.iload_n 1, 1) := by decide +kernel
theorem dX8_often_32 : decode cX8_often 32 = .ok (.iadd, 1) := by decide +kernel
theorem dX8_often_33 : decode cX8_often 33 = .ok (.iaload, 1) := by decide +kernel
theorem dX8_often_34 : decode cX8_often 34 = .ok (.if_icmp .le 5, 3) := by decide +kernel
theorem dX8_often_37 : decode cX8_often 37 = .ok (.iload_n 2, 1) := by decide +kernel
theorem dX8_often_38 : decode cX8_often 38 = .ok (.istore_n 1, 1) := by decide +kernel
theorem dX8_often_39 : decode cX8_often 39 = .ok (.iinc 2 1, 3) := by decide +kernel
theorem dX8_often_42 : decode cX8_often 42 = .ok (.goto (-38), 3) := by decide +kernel
theorem dX8_often_45 : decode cX8_often 45 = .ok (.iload_n 1, 1) := by decide +kernel
theorem dX8_often_46 : decode cX8_often 46 = .ok (.ireturn, 1) := by decide +kernel
theorem dX8_changed_0 : decode cX8_changed 0 = .ok (.iconst 0, 1) := by decide +kernel
theorem dX8_changed_1 : decode cX8_changed 1 = .ok (.istore_n 1, 1) := by decide +kernel
theorem dX8_changed_2 : decode cX8_changed 2 = .ok (.iconst 0, 1) := by decide +kernel
theorem dX8_changed_3 : decode cX8_changed 3 = .ok (.istore_n 2, 1) := by decide +kernel
theorem dX8_changed_4 : decode cX8_changed 4 = .ok (.iload_n 2, 1) := by decide +kernel
theorem dX8_changed_5 : decode cX8_changed 5 = .ok (.bipush 12, 2) := by decide +kernel
theorem dX8_changed_7 : decode cX8_changed 7 = .ok (.if_icmp .ge 26, 3) := by decide +kernel
theorem dX8_changed_10 : decode cX8_changed 10 = .ok (.aload_n 0, 1) := by decide +kernel
theorem dX8_changed_11 : decode cX8_changed 11 = .ok (.getfield 40, 3) := by decide +kernel
theorem dX8_changed_14 : decode cX8_changed 14 = .ok (.iload_n 2, 1) := by decide +kernel
theorem dX8_changed_15 : decode cX8_changed 15 = .ok (.invokevirtual 151, 3) := by decide +kernel
theorem dX8_changed_18 : decode cX8_changed 18 = .ok (.ifCond .eq 9, 3) := by decide +kernel
theorem dX8_changed_21 : decode cX8_changed 21 = .ok (.iload_n 1, 1) := by decide +kernel
theorem dX8_changed_22 : decode cX8_changed 22 = .ok (.iconst 1, 1) := by decide +kernel
theorem dX8_changed_23 : decode cX8_changed 23 = .ok (.iload_n 2, 1) := by decide +kernel
theorem dX8_changed_24 : decode cX8_changed 24 = .ok (.ishl, 1) := by decide +kernel
theorem dX8_changed_25 : decode cX8_changed 25 = .ok (.ior, 1) := by decide +kernel
theorem dX8_changed_26 : decode cX8_changed 26 = .ok (.istore_n 1, 1) := by decide +kernel
theorem dX8_changed_27 : decode cX8_changed 27 = .ok (.iinc 2 1, 3) := by decide +kernel
theorem dX8_changed_30 : decode cX8_changed 30 = .ok (.goto (-26), 3) := by decide +kernel
theorem dX8_changed_33 : decode cX8_changed 33 = .ok (.iload_n 1, 1) := by decide +kernel
theorem dX8_changed_34 : decode cX8_changed 34 = .ok (.ireturn, 1) := by decide +kernel
theorem dX8_front_0 : decode cX8_front 0 = .ok (.aload_n 0, 1) := by decide +kernel
theorem dX8_front_1 : decode cX8_front 1 = .ok (.getfield 12, 3) := by decide +kernel
theorem dX8_front_4 : decode cX8_front 4 = .ok (.invokevirtual 304, 3) := by decide +kernel
theorem dX8_front_7 : decode cX8_front 7 = .ok (.ireturn, 1) := by decide +kernel
theorem dX8_ledger_0 : decode cX8_ledger 0 = .ok (.aload_n 0, 1) := by decide +kernel
theorem dX8_ledger_1 : decode cX8_ledger 1 = .ok (.getfield 12, 3) := by decide +kernel
theorem dX8_ledger_4 : decode cX8_ledger 4 = .ok (.invokevirtual 213, 3) := by decide +kernel
theorem dX8_ledger_7 : decode cX8_ledger 7 = .ok (.istore_n 2, 1) := by decide +kernel
theorem dX8_ledger_8 : decode cX8_ledger 8 = .ok (.iconst 0, 1) := by decide +kernel
theorem dX8_ledger_9 : decode cX8_ledger 9 = .ok (.istore_n 3, 1) := by decide +kernel
theorem dX8_ledger_10 : decode cX8_ledger 10 = .ok (.iconst 0, 1) := by decide +kernel
theorem dX8_ledger_11 : decode cX8_ledger 11 = .ok (.istore 4, 2) := by decide +kernel
theorem dX8_ledger_13 : decode cX8_ledger 13 = .ok (.iload 4, 2) := by decide +kernel
theorem dX8_ledger_15 : decode cX8_ledger 15 = .ok (.iload_n 2, 1) := by decide +kernel
theorem dX8_ledger_16 : decode cX8_ledger 16 = .ok (.if_icmp .ge 25, 3) := by decide +kernel
theorem dX8_ledger_19 : decode cX8_ledger 19 = .ok (.iload_n 3, 1) := by decide +kernel
theorem dX8_ledger_20 : decode cX8_ledger 20 = .ok (.aload_n 0, 1) := by decide +kernel
theorem dX8_ledger_21 : decode cX8_ledger 21 = .ok (.getfield 12, 3) := by decide +kernel
theorem dX8_ledger_24 : decode cX8_ledger 24 = .ok (.getfield 181, 3) := by decide +kernel
theorem dX8_ledger_27 : decode cX8_ledger 27 = .ok (.bipush 73, 2) := by decide +kernel
theorem dX8_ledger_29 : decode cX8_ledger 29 = .ok (.iload 4, 2) := by decide +kernel
theorem dX8_ledger_31 : decode cX8_ledger 31 = .ok (.iadd, 1) := by decide +kernel
theorem dX8_ledger_32 : decode cX8_ledger 32 = .ok (.iaload, 1) := by decide +kernel
theorem dX8_ledger_33 : decode cX8_ledger 33 = .ok (.iadd, 1) := by decide +kernel
theorem dX8_ledger_34 : decode cX8_ledger 34 = .ok (.istore_n 3, 1) := by decide +kernel
theorem dX8_ledger_35 : decode cX8_ledger 35 = .ok (.iinc 4 1, 3) := by decide +kernel
theorem dX8_ledger_38 : decode cX8_ledger 38 = .ok (.goto (-25), 3) := by decide +kernel
theorem dX8_ledger_41 : decode cX8_ledger 41 = .ok (.iload_n 1, 1) := by decide +kernel
theorem dX8_ledger_42 : decode cX8_ledger 42 = .ok (.ifCond .eq 7, 3) := by decide +kernel
theorem dX8_ledger_45 : decode cX8_ledger 45 = .ok (.iload_n 3, 1) := by decide +kernel
theorem dX8_ledger_46 : decode cX8_ledger 46 = .ok (.goto 6, 3) := by decide +kernel
theorem dX8_ledger_49 : decode cX8_ledger 49 = .ok (.iload_n 2, 1) := by decide +kernel
theorem dX8_ledger_50 : decode cX8_ledger 50 = .ok (.iload_n 3, 1) := by decide +kernel
theorem dX8_ledger_51 : decode cX8_ledger 51 = .ok (.isub, 1) := by decide +kernel
theorem dX8_ledger_52 : decode cX8_ledger 52 = .ok (.ireturn, 1) := by decide +kernel
theorem dX8_image_0 : decode cX8_image 0 = .ok (.aload_n 0, 1) := by decide +kernel
theorem dX8_image_1 : decode cX8_image 1 = .ok (.getfield 16, 3) := by decide +kernel
theorem dX8_image_4 : decode cX8_image 4 = .ok (.aload_n 0, 1) := by decide +kernel
theorem dX8_image_5 : decode cX8_image 5 = .ok (.getfield 12, 3) := by decide +kernel
theorem dX8_image_8 : decode cX8_image 8 = .ok (.invokevirtual 307, 3) := by decide +kernel
theorem dX8_image_11 : decode cX8_image 11 = .ok (.aload_n 0, 1) := by decide +kernel
theorem dX8_image_12 : decode cX8_image 12 = .ok (.getfield 12, 3) := by decide +kernel
theorem dX8_image_15 : decode cX8_image 15 = .ok (.getfield 181, 3) := by decide +kernel
theorem dX8_image_18 : decode cX8_image 18 = .ok (.bipush 41, 2) := by decide +kernel
theorem dX8_image_20 : decode cX8_image 20 = .ok (.iaload, 1) := by decide +kernel
theorem dX8_image_21 : decode cX8_image 21 = .ok (.ireturn, 1) := by decide +kernel
theorem dX8_back_0 : decode cX8_back 0 = .ok (.aload_n 0, 1) := by decide +kernel
theorem dX8_back_1 : decode cX8_back 1 = .ok (.getfield 12, 3) := by decide +kernel
theorem dX8_back_4 : decode cX8_back 4 = .ok (.aload_n 0, 1) := by decide +kernel
theorem dX8_back_5 : decode cX8_back 5 = .ok (.getfield 16, 3) := by decide +kernel
theorem dX8_back_8 : decode cX8_back 8 = .ok (.invokevirtual 307, 3) := by decide +kernel
theorem dX8_back_11 : decode cX8_back 11 = .ok (.aload_n 0, 1) := by decide +kernel
theorem dX8_back_12 : decode cX8_back 12 = .ok (.getfield 12, 3) := by decide +kernel
theorem dX8_back_15 : decode cX8_back 15 = .ok (.getfield 181, 3) := by decide +kernel
theorem dX8_back_18 : decode cX8_back 18 = .ok (.bipush 41, 2) := by decide +kernel
theorem dX8_back_20 : decode cX8_back 20 = .ok (.iaload, 1) := by decide +kernel
theorem dX8_back_21 : decode cX8_back 21 = .ok (.ireturn, 1) := by decide +kernel
theorem dX8_about_0 : decode cX8_about 0 = .ok (.iload_n 1, 1) := by decide +kernel
theorem dX8_about_1 : decode cX8_about 1 = .ok (.tableswitch 99 0 6 #[43, 51, 59, 67, 75, 83, 91], 43) := by decide +kernel
theorem dX8_about_44 : decode cX8_about 44 = .ok (.aload_n 0, 1) := by decide +kernel
theorem dX8_about_45 : decode cX8_about 45 = .ok (.getfield 12, 3) := by decide +kernel
theorem dX8_about_48 : decode cX8_about 48 = .ok (.getfield 280, 3) := by decide +kernel
theorem dX8_about_51 : decode cX8_about 51 = .ok (.ireturn, 1) := by decide +kernel
theorem dX8_about_52 : decode cX8_about 52 = .ok (.aload_n 0, 1) := by decide +kernel
theorem dX8_about_53 : decode cX8_about 53 = .ok (.getfield 12, 3) := by decide +kernel
theorem dX8_about_56 : decode cX8_about 56 = .ok (.getfield 102, 3) := by decide +kernel
theorem dX8_about_59 : decode cX8_about 59 = .ok (.ireturn, 1) := by decide +kernel
theorem dX8_about_60 : decode cX8_about 60 = .ok (.aload_n 0, 1) := by decide +kernel
theorem dX8_about_61 : decode cX8_about 61 = .ok (.getfield 12, 3) := by decide +kernel
theorem dX8_about_64 : decode cX8_about 64 = .ok (.getfield 132, 3) := by decide +kernel
theorem dX8_about_67 : decode cX8_about 67 = .ok (.ireturn, 1) := by decide +kernel
theorem dX8_about_68 : decode cX8_about 68 = .ok (.aload_n 0, 1) := by decide +kernel
theorem dX8_about_69 : decode cX8_about 69 = .ok (.getfield 12, 3) := by decide +kernel
theorem dX8_about_72 : decode cX8_about 72 = .ok (.getfield 184, 3) := by decide +kernel
theorem dX8_about_75 : decode cX8_about 75 = .ok (.ireturn, 1) := by decide +kernel
theorem dX8_about_76 : decode cX8_about 76 = .ok (.aload_n 0, 1) := by decide +kernel
theorem dX8_about_77 : decode cX8_about 77 = .ok (.getfield 12, 3) := by decide +kernel
theorem dX8_about_80 : decode cX8_about 80 = .ok (.getfield 219, 3) := by decide +kernel
theorem dX8_about_83 : decode cX8_about 83 = .ok (.ireturn, 1) := by decide +kernel
theorem dX8_about_84 : decode cX8_about 84 = .ok (.aload_n 0, 1) := by decide +kernel
theorem dX8_about_85 : decode cX8_about 85 = .ok (.getfield 12, 3) := by decide +kernel
theorem dX8_about_88 : decode cX8_about 88 = .ok (.getfield 292, 3) := by decide +kernel
theorem dX8_about_91 : decode cX8_about 91 = .ok (.ireturn, 1) := by decide +kernel
theorem dX8_about_92 : decode cX8_about 92 = .ok (.aload_n 0, 1) := by decide +kernel
theorem dX8_about_93 : decode cX8_about 93 = .ok (.getfield 22, 3) := by decide +kernel
theorem dX8_about_96 : decode cX8_about 96 = .ok (.getfield 94, 3) := by decide +kernel
theorem dX8_about_99 : decode cX8_about 99 = .ok (.ireturn, 1) := by decide +kernel
theorem dX8_about_100 : decode cX8_about 100 = .ok (.bipush (-2), 2) := by decide +kernel
theorem dX8_about_102 : decode cX8_about 102 = .ok (.ireturn, 1) := by decide +kernel
section
variable {p : Program} {l : Launch} {e : Env} {R : Room} {s : State} {m : MethodId} {args : Array Value} {below : List Frame} {meth : Method} {c : Code} {Q : State → Prop} {V : g_V} {nf nl : Nat}
set_option maxRecDepth 100000 in
set_option maxHeartbeats 4000000 in
theorem b_X8_scene (C : g_CX xG V p R s m args meth c cX8_scene 4 (some .boolean) RX8 2 46) {res : Int × g_M} (hR : g_RetI xG V p l e R s m args below meth c Q cX8_scene .boolean res.1 res.2) {a1 : Int} {a2 : Int} {a3 : Int} {M : g_M} {H : Heap} {locs : List Loc} {ls : Array Slot} (h : m_X8_scene a1 a2 a3 M = some res) (hp : g_PT xG V M s H locs) (hl : lv_has ls 4 [(0, .ref (V.2.2 0)), (1, .int (gI a1)), (2, .int (gI a2)), (3, .int (gI a3))]) : W p l e R s m args below meth c H locs 0 0 Q (F0 m 0 ls []) := by
  unfold m_X8_scene at h
  refine lv_iload_n C.1 C.2.1 dX8_scene_0 rfl (lv_at hl 1 rfl) ?_
  obtain ⟨x11, hr, h⟩ := bd_of h
  refine r_callSI (As := [.int (gI a1)]) (rest := []) C hl.1 hp (c_X8_isScene l C.2.2.2.2.2.2.2.2.2.2.2 hr) gw_460 gw_461 cal_X8_isScene rfl rfl (Nat.le_of_ble_eq_true rfl) ⟨Nat.le_of_ble_eq_true rfl, Nat.le_of_ble_eq_true rfl⟩ dX8_scene_1 (fun H locs hp => ?_)
  refine r_if_eq (tgt := 21) C h dX8_scene_4 (by decide) (fun h => ?_) (fun h => ?_)
  · refine r_iconst C dX8_scene_21 ?_
    cases h
    exact hR _ _ _ _ dX8_scene_22 g_nz0 hp
  · refine lv_iload_n C.1 C.2.1 dX8_scene_7 rfl (lv_at hl 2 rfl) ?_
    obtain ⟨x12, hr, h⟩ := bd_of h
    refine r_callSI (As := [.int (gI a2)]) (rest := []) C hl.1 hp (c_X8_isCue l C.2.2.2.2.2.2.2.2.2.2.2 hr) gw_466 gw_467 cal_X8_isCue rfl rfl (Nat.le_of_ble_eq_true rfl) ⟨Nat.le_of_ble_eq_true rfl, Nat.le_of_ble_eq_true rfl⟩ dX8_scene_8 (fun H locs hp => ?_)
    refine r_if_eq (tgt := 21) C h dX8_scene_11 (by decide) (fun h => ?_) (fun h => ?_)
    · refine r_iconst C dX8_scene_21 ?_
      cases h
      exact hR _ _ _ _ dX8_scene_22 g_nz0 hp
    · refine lv_iload_n C.1 C.2.1 dX8_scene_14 rfl (lv_at hl 3 rfl) ?_
      obtain ⟨x13, hr, h⟩ := bd_of h
      refine r_callSI (As := [.int (gI a3)]) (rest := []) C hl.1 hp (c_X8_isPlace l C.2.2.2.2.2.2.2.2.2.2.2 hr) gw_469 gw_470 cal_X8_isPlace rfl rfl (Nat.le_of_ble_eq_true rfl) ⟨Nat.le_of_ble_eq_true rfl, Nat.le_of_ble_eq_true rfl⟩ dX8_scene_15 (fun H locs hp => ?_)
      refine r_if_ne (tgt := 23) C h dX8_scene_18 (by decide) (fun h => ?_) (fun h => ?_)
      · refine lv_aload_n C.1 C.2.1 dX8_scene_23 rfl (lv_at hl 0 rfl) ?_
        refine r_getr (t := 1) C hp xk_0 xs_0 xc_8 xin_8 (j := 0) (by decide) rfl gw_431 rfl dX8_scene_24 ?_
        refine lv_iload_n C.1 C.2.1 dX8_scene_27 rfl (lv_at hl 1 rfl) ?_
        refine lv_iload_n C.1 C.2.1 dX8_scene_28 rfl (lv_at hl 2 rfl) ?_
        refine lv_iload_n C.1 C.2.1 dX8_scene_29 rfl (lv_at hl 3 rfl) ?_
        obtain ⟨M14, hr, h⟩ := bd_of h
        refine r_callVV (As := [.int (gI a1), .int (gI a2), .int (gI a3)]) (rest := []) C hl.1 hp (c_X1_tellNext l C.2.2.2.2.2.2.2.2.2.2.2 hr) gw_472 gw_473 gw_474 xk_1 xs_1 xc_1 cal_X1_tellNext rfl rfl (Nat.le_of_ble_eq_true rfl) ⟨Nat.le_of_ble_eq_true rfl, Nat.le_of_ble_eq_true rfl⟩ dX8_scene_30 (fun H locs hp => ?_)
        refine r_iconst C dX8_scene_33 ?_
        cases h
        exact hR _ _ _ _ dX8_scene_34 g_nz1 hp
      · refine r_iconst C dX8_scene_21 ?_
        cases h
        exact hR _ _ _ _ dX8_scene_22 g_nz0 hp
theorem c_X8_scene (l : Launch) {V : g_V} (hok : g_ok xG V) {a1 : Int} {a2 : Int} {a3 : Int} {M : g_M} {x : Int} {M2 : g_M} (h : m_X8_scene a1 a2 a3 M = some (x, M2)) : MetI xG V l yX8_scene cX8_scene 4 (some .boolean) 2 46 [.ref (V.2.2 0), .int (gI a1), .int (gI a2), .int (gI a3)] M x M2 :=
  g_metI hok cal_X8_scene.2.2.2 rfl (Nat.le_of_ble_eq_true rfl) (@fun p e R s m args below meth c Q ls C hR hp hl => b_X8_scene C hR h hp hl)
set_option maxRecDepth 100000 in
set_option maxHeartbeats 4000000 in
theorem b_X8_kind (C : g_CX xG V p R s m args meth c cX8_kind 3 (some .boolean) RX8 2 42) {res : Int × g_M} (hR : g_RetI xG V p l e R s m args below meth c Q cX8_kind .boolean res.1 res.2) {a1 : Int} {a2 : Int} {M : g_M} {H : Heap} {locs : List Loc} {ls : Array Slot} (h : m_X8_kind a1 a2 M = some res) (hp : g_PT xG V M s H locs) (hl : lv_has ls 3 [(0, .ref (V.2.2 0)), (1, .int (gI a1)), (2, .int (gI a2))]) : W p l e R s m args below meth c H locs 0 0 Q (F0 m 0 ls []) := by
  unfold m_X8_kind at h
  refine lv_iload_n C.1 C.2.1 dX8_kind_0 rfl (lv_at hl 1 rfl) ?_
  obtain ⟨x11, hr, h⟩ := bd_of h
  refine r_callSI (As := [.int (gI a1)]) (rest := []) C hl.1 hp (c_X8_isScene l C.2.2.2.2.2.2.2.2.2.2.2 hr) gw_460 gw_461 cal_X8_isScene rfl rfl (Nat.le_of_ble_eq_true rfl) ⟨Nat.le_of_ble_eq_true rfl, Nat.le_of_ble_eq_true rfl⟩ dX8_kind_1 (fun H locs hp => ?_)
  refine r_if_eq (tgt := 16) C h dX8_kind_4 (by decide) (fun h => ?_) (fun h => ?_)
  · refine r_iconst C dX8_kind_16 ?_
    cases h
    exact hR _ _ _ _ dX8_kind_17 g_nz0 hp
  · refine lv_iload_n C.1 C.2.1 dX8_kind_7 rfl (lv_at hl 2 rfl) ?_
    refine r_iconst C dX8_kind_8 ?_
    refine r_iconst C dX8_kind_9 ?_
    obtain ⟨x12, hr, h⟩ := bd_of h
    refine r_callSI (As := [.int (gI a2), .int (gI 0), .int (gI 3)]) (rest := []) C hl.1 hp (c_X8_within l C.2.2.2.2.2.2.2.2.2.2.2 hr) gw_463 gw_464 cal_X8_within rfl rfl (Nat.le_of_ble_eq_true rfl) ⟨Nat.le_of_ble_eq_true rfl, Nat.le_of_ble_eq_true rfl⟩ dX8_kind_10 (fun H locs hp => ?_)
    refine r_if_ne (tgt := 18) C h dX8_kind_13 (by decide) (fun h => ?_) (fun h => ?_)
    · refine lv_aload_n C.1 C.2.1 dX8_kind_18 rfl (lv_at hl 0 rfl) ?_
      refine r_getr (t := 1) C hp xk_0 xs_0 xc_8 xin_8 (j := 0) (by decide) rfl gw_431 rfl dX8_kind_19 ?_
      refine r_getr (t := 5) C hp xk_1 xs_1 xc_1 xin_1 (j := 5) (by decide) rfl gw_156 rfl dX8_kind_22 ?_
      refine lv_iload_n C.1 C.2.1 dX8_kind_25 rfl (lv_at hl 1 rfl) ?_
      refine lv_iload_n C.1 C.2.1 dX8_kind_26 rfl (lv_at hl 2 rfl) ?_
      refine r_iast C hp h xk_5 xs_5 dX8_kind_27 (fun M13 H locs h hp => ?_)
      refine r_iconst C dX8_kind_28 ?_
      cases h
      exact hR _ _ _ _ dX8_kind_29 g_nz1 hp
    · refine r_iconst C dX8_kind_16 ?_
      cases h
      exact hR _ _ _ _ dX8_kind_17 g_nz0 hp
theorem c_X8_kind (l : Launch) {V : g_V} (hok : g_ok xG V) {a1 : Int} {a2 : Int} {M : g_M} {x : Int} {M2 : g_M} (h : m_X8_kind a1 a2 M = some (x, M2)) : MetI xG V l yX8_kind cX8_kind 3 (some .boolean) 2 42 [.ref (V.2.2 0), .int (gI a1), .int (gI a2)] M x M2 :=
  g_metI hok cal_X8_kind.2.2.2 rfl (Nat.le_of_ble_eq_true rfl) (@fun p e R s m args below meth c Q ls C hR hp hl => b_X8_kind C hR h hp hl)
set_option maxRecDepth 100000 in
set_option maxHeartbeats 4000000 in
theorem b_X8_person (C : g_CX xG V p R s m args meth c cX8_person 3 (some .int) RX8 2 46) {res : Int × g_M} (hR : g_RetI xG V p l e R s m args below meth c Q cX8_person .int res.1 res.2) {a1 : Int} {a2 : Int} {M : g_M} {H : Heap} {locs : List Loc} {ls : Array Slot} (h : m_X8_person a1 a2 M = some res) (hp : g_PT xG V M s H locs) (hl : lv_has ls 3 [(0, .ref (V.2.2 0)), (1, .int (gI a1)), (2, .int (gI a2))]) : W p l e R s m args below meth c H locs 0 0 Q (F0 m 0 ls []) := by
  unfold m_X8_person at h
  refine lv_iload_n C.1 C.2.1 dX8_person_0 rfl (lv_at hl 1 rfl) ?_
  obtain ⟨x11, hr, h⟩ := bd_of h
  refine r_callSI (As := [.int (gI a1)]) (rest := []) C hl.1 hp (c_X8_isDigit l C.2.2.2.2.2.2.2.2.2.2.2 hr) gw_488 gw_489 cal_X8_isDigit rfl rfl (Nat.le_of_ble_eq_true rfl) ⟨Nat.le_of_ble_eq_true rfl, Nat.le_of_ble_eq_true rfl⟩ dX8_person_1 (fun H locs hp => ?_)
  refine r_if_eq (tgt := 14) C h dX8_person_4 (by decide) (fun h => ?_) (fun h => ?_)
  · refine r_iconst C dX8_person_14 ?_
    cases h
    exact hR _ _ _ _ dX8_person_15 rfl hp
  · refine lv_iload_n C.1 C.2.1 dX8_person_7 rfl (lv_at hl 2 rfl) ?_
    obtain ⟨x12, hr, h⟩ := bd_of h
    refine r_callSI (As := [.int (gI a2)]) (rest := []) C hl.1 hp (c_X8_isDigit l C.2.2.2.2.2.2.2.2.2.2.2 hr) gw_488 gw_489 cal_X8_isDigit rfl rfl (Nat.le_of_ble_eq_true rfl) ⟨Nat.le_of_ble_eq_true rfl, Nat.le_of_ble_eq_true rfl⟩ dX8_person_8 (fun H locs hp => ?_)
    refine r_if_ne (tgt := 16) C h dX8_person_11 (by decide) (fun h => ?_) (fun h => ?_)
    · refine lv_aload_n C.1 C.2.1 dX8_person_16 rfl (lv_at hl 0 rfl) ?_
      refine r_getr (t := 1) C hp xk_0 xs_0 xc_8 xin_8 (j := 0) (by decide) rfl gw_431 rfl dX8_person_17 ?_
      refine lv_iload_n C.1 C.2.1 dX8_person_20 rfl (lv_at hl 1 rfl) ?_
      refine lv_iload_n C.1 C.2.1 dX8_person_21 rfl (lv_at hl 2 rfl) ?_
      obtain ⟨x13, M14, hr, h⟩ := bW_of h
      refine r_callVI (As := [.int (gI a1), .int (gI a2)]) (rest := []) C hl.1 hp (c_X1_tellPerson l C.2.2.2.2.2.2.2.2.2.2.2 hr) gw_491 gw_492 gw_493 xk_1 xs_1 xc_1 cal_X1_tellPerson rfl rfl (Nat.le_of_ble_eq_true rfl) ⟨Nat.le_of_ble_eq_true rfl, Nat.le_of_ble_eq_true rfl⟩ dX8_person_22 (fun H locs hp => ?_)
      cases h
      exact hR _ _ _ _ dX8_person_25 rfl hp
    · refine r_iconst C dX8_person_14 ?_
      cases h
      exact hR _ _ _ _ dX8_person_15 rfl hp
theorem c_X8_person (l : Launch) {V : g_V} (hok : g_ok xG V) {a1 : Int} {a2 : Int} {M : g_M} {x : Int} {M2 : g_M} (h : m_X8_person a1 a2 M = some (x, M2)) : MetI xG V l yX8_person cX8_person 3 (some .int) 2 46 [.ref (V.2.2 0), .int (gI a1), .int (gI a2)] M x M2 :=
  g_metI hok cal_X8_person.2.2.2 rfl (Nat.le_of_ble_eq_true rfl) (@fun p e R s m args below meth c Q ls C hR hp hl => b_X8_person C hR h hp hl)
set_option maxRecDepth 100000 in
set_option maxHeartbeats 4000000 in
theorem b_X8_feed (C : g_CX xG V p R s m args meth c cX8_feed 6 (some .int) RX8 1 22) {res : Int × g_M} (hR : g_RetI xG V p l e R s m args below meth c Q cX8_feed .int res.1 res.2) {a1 : Int} {a2 : Int} {a3 : Int} {a4 : Int} {a5 : Int} {M : g_M} {H : Heap} {locs : List Loc} {ls : Array Slot} (h : m_X8_feed a1 a2 a3 a4 a5 M = some res) (hp : g_PT xG V M s H locs) (hl : lv_has ls 6 [(0, .ref (V.2.2 0)), (1, .int (gI a1)), (2, .int (gI a2)), (3, .int (gI a3)), (4, .int (gI a4)), (5, .int (gI a5))]) : W p l e R s m args below meth c H locs 0 0 Q (F0 m 0 ls []) := by
  unfold m_X8_feed at h
  refine lv_aload_n C.1 C.2.1 dX8_feed_0 rfl (lv_at hl 0 rfl) ?_
  refine r_getr (t := 23) C hp xk_0 xs_0 xc_8 xin_8 (j := 2) (by decide) rfl gw_433 rfl dX8_feed_1 ?_
  refine r_geti (t := 0) C hp xk_23 xs_23 xc_4 xin_4 (j := 2) (by decide) rfl gw_284 rfl dX8_feed_4 ?_
  refine r_sipush C dX8_feed_7 (by decide +kernel) ?_
  refine r_icmp_le (tgt := 15) C h dX8_feed_10 (by decide) (fun h => ?_) (fun h => ?_)
  · refine lv_aload_n C.1 C.2.1 dX8_feed_15 rfl (lv_at hl 0 rfl) ?_
    refine r_getr (t := 23) C hp xk_0 xs_0 xc_8 xin_8 (j := 2) (by decide) rfl gw_433 rfl dX8_feed_16 ?_
    refine lv_iload_n C.1 C.2.1 dX8_feed_19 rfl (lv_at hl 1 rfl) ?_
    obtain ⟨M11, hr, h⟩ := bd_of h
    refine r_callVV (As := [.int (gI a1)]) (rest := []) C hl.1 hp (c_X4_take l C.2.2.2.2.2.2.2.2.2.2.2 hr) gw_499 gw_500 gw_501 xk_23 xs_23 xc_4 cal_X4_take rfl rfl (Nat.le_of_ble_eq_true rfl) ⟨Nat.le_of_ble_eq_true rfl, Nat.le_of_ble_eq_true rfl⟩ dX8_feed_20 (fun H locs hp => ?_)
    refine lv_aload_n C.1 C.2.1 dX8_feed_23 rfl (lv_at hl 0 rfl) ?_
    refine r_getr (t := 23) C hp xk_0 xs_0 xc_8 xin_8 (j := 2) (by decide) rfl gw_433 rfl dX8_feed_24 ?_
    refine lv_iload_n C.1 C.2.1 dX8_feed_27 rfl (lv_at hl 2 rfl) ?_
    obtain ⟨M12, hr, h⟩ := bd_of h
    refine r_callVV (As := [.int (gI a2)]) (rest := []) C hl.1 hp (c_X4_take l C.2.2.2.2.2.2.2.2.2.2.2 hr) gw_499 gw_500 gw_501 xk_23 xs_23 xc_4 cal_X4_take rfl rfl (Nat.le_of_ble_eq_true rfl) ⟨Nat.le_of_ble_eq_true rfl, Nat.le_of_ble_eq_true rfl⟩ dX8_feed_28 (fun H locs hp => ?_)
    refine lv_aload_n C.1 C.2.1 dX8_feed_31 rfl (lv_at hl 0 rfl) ?_
    refine r_getr (t := 23) C hp xk_0 xs_0 xc_8 xin_8 (j := 2) (by decide) rfl gw_433 rfl dX8_feed_32 ?_
    refine lv_iload_n C.1 C.2.1 dX8_feed_35 rfl (lv_at hl 3 rfl) ?_
    obtain ⟨M13, hr, h⟩ := bd_of h
    refine r_callVV (As := [.int (gI a3)]) (rest := []) C hl.1 hp (c_X4_take l C.2.2.2.2.2.2.2.2.2.2.2 hr) gw_499 gw_500 gw_501 xk_23 xs_23 xc_4 cal_X4_take rfl rfl (Nat.le_of_ble_eq_true rfl) ⟨Nat.le_of_ble_eq_true rfl, Nat.le_of_ble_eq_true rfl⟩ dX8_feed_36 (fun H locs hp => ?_)
    refine lv_aload_n C.1 C.2.1 dX8_feed_39 rfl (lv_at hl 0 rfl) ?_
    refine r_getr (t := 23) C hp xk_0 xs_0 xc_8 xin_8 (j := 2) (by decide) rfl gw_433 rfl dX8_feed_40 ?_
    refine lv_iload C.1 C.2.1 dX8_feed_43 (lv_at hl 4 rfl) ?_
    obtain ⟨M14, hr, h⟩ := bd_of h
    refine r_callVV (As := [.int (gI a4)]) (rest := []) C hl.1 hp (c_X4_take l C.2.2.2.2.2.2.2.2.2.2.2 hr) gw_499 gw_500 gw_501 xk_23 xs_23 xc_4 cal_X4_take rfl rfl (Nat.le_of_ble_eq_true rfl) ⟨Nat.le_of_ble_eq_true rfl, Nat.le_of_ble_eq_true rfl⟩ dX8_feed_45 (fun H locs hp => ?_)
    refine lv_aload_n C.1 C.2.1 dX8_feed_48 rfl (lv_at hl 0 rfl) ?_
    refine r_getr (t := 23) C hp xk_0 xs_0 xc_8 xin_8 (j := 2) (by decide) rfl gw_433 rfl dX8_feed_49 ?_
    refine lv_iload C.1 C.2.1 dX8_feed_52 (lv_at hl 5 rfl) ?_
    obtain ⟨M15, hr, h⟩ := bd_of h
    refine r_callVV (As := [.int (gI a5)]) (rest := []) C hl.1 hp (c_X4_take l C.2.2.2.2.2.2.2.2.2.2.2 hr) gw_499 gw_500 gw_501 xk_23 xs_23 xc_4 cal_X4_take rfl rfl (Nat.le_of_ble_eq_true rfl) ⟨Nat.le_of_ble_eq_true rfl, Nat.le_of_ble_eq_true rfl⟩ dX8_feed_54 (fun H locs hp => ?_)
    refine lv_aload_n C.1 C.2.1 dX8_feed_57 rfl (lv_at hl 0 rfl) ?_
    refine r_getr (t := 23) C hp xk_0 xs_0 xc_8 xin_8 (j := 2) (by decide) rfl gw_433 rfl dX8_feed_58 ?_
    refine r_geti (t := 0) C hp xk_23 xs_23 xc_4 xin_4 (j := 2) (by decide) rfl gw_284 rfl dX8_feed_61 ?_
    cases h
    exact hR _ _ _ _ dX8_feed_64 rfl hp
  · refine r_iconst C dX8_feed_13 ?_
    cases h
    exact hR _ _ _ _ dX8_feed_14 rfl hp
theorem c_X8_feed (l : Launch) {V : g_V} (hok : g_ok xG V) {a1 : Int} {a2 : Int} {a3 : Int} {a4 : Int} {a5 : Int} {M : g_M} {x : Int} {M2 : g_M} (h : m_X8_feed a1 a2 a3 a4 a5 M = some (x, M2)) : MetI xG V l yX8_feed cX8_feed 6 (some .int) 1 22 [.ref (V.2.2 0), .int (gI a1), .int (gI a2), .int (gI a3), .int (gI a4), .int (gI a5)] M x M2 :=
  g_metI hok cal_X8_feed.2.2.2 rfl (Nat.le_of_ble_eq_true rfl) (@fun p e R s m args below meth c Q ls C hR hp hl => b_X8_feed C hR h hp hl)
set_option maxRecDepth 100000 in
set_option maxHeartbeats 4000000 in
theorem b_X8_end (C : g_CX xG V p R s m args meth c cX8_end 2 (some .int) RX8 1 22) {res : Int × g_M} (hR : g_RetI xG V p l e R s m args below meth c Q cX8_end .int res.1 res.2) {a1 : Int} {M : g_M} {H : Heap} {locs : List Loc} {ls : Array Slot} (h : m_X8_end a1 M = some res) (hp : g_PT xG V M s H locs) (hl : lv_has ls 2 [(0, .ref (V.2.2 0)), (1, .int (gI a1))]) : W p l e R s m args below meth c H locs 0 0 Q (F0 m 0 ls []) := by
  unfold m_X8_end at h
  refine lv_iload_n C.1 C.2.1 dX8_end_0 rfl (lv_at hl 1 rfl) ?_
  refine r_iconst C dX8_end_1 ?_
  refine lv_aload_n C.1 C.2.1 dX8_end_2 rfl (lv_at hl 0 rfl) ?_
  refine r_getr (t := 23) C hp xk_0 xs_0 xc_8 xin_8 (j := 2) (by decide) rfl gw_433 rfl dX8_end_3 ?_
  refine r_geti (t := 0) C hp xk_23 xs_23 xc_4 xin_4 (j := 2) (by decide) rfl gw_284 rfl dX8_end_6 ?_
  obtain ⟨x11, hr, h⟩ := bd_of h
  refine r_callSI (As := [.int (gI a1), .int (gI 0), .int (gI (M 23 2))]) (rest := []) C hl.1 hp (c_X8_within l C.2.2.2.2.2.2.2.2.2.2.2 hr) gw_463 gw_464 cal_X8_within rfl rfl (Nat.le_of_ble_eq_true rfl) ⟨Nat.le_of_ble_eq_true rfl, Nat.le_of_ble_eq_true rfl⟩ dX8_end_9 (fun H locs hp => ?_)
  refine r_if_ne (tgt := 17) C h dX8_end_12 (by decide) (fun h => ?_) (fun h => ?_)
  · refine lv_aload_n C.1 C.2.1 dX8_end_17 rfl (lv_at hl 0 rfl) ?_
    refine r_getr (t := 23) C hp xk_0 xs_0 xc_8 xin_8 (j := 2) (by decide) rfl gw_433 rfl dX8_end_18 ?_
    refine lv_iload_n C.1 C.2.1 dX8_end_21 rfl (lv_at hl 1 rfl) ?_
    refine r_puti C hp h xk_23 xs_23 xc_4 xin_4 tyX4 tyX4_ok nmX4 (j := 2) (by decide) rfl gw_284 rfl rfl rfl dX8_end_22 (fun M12 H locs h hp => ?_)
    refine lv_iload_n C.1 C.2.1 dX8_end_25 rfl (lv_at hl 1 rfl) ?_
    cases h
    exact hR _ _ _ _ dX8_end_26 rfl hp
  · refine r_iconst C dX8_end_15 ?_
    cases h
    exact hR _ _ _ _ dX8_end_16 rfl hp
theorem c_X8_end (l : Launch) {V : g_V} (hok : g_ok xG V) {a1 : Int} {M : g_M} {x : Int} {M2 : g_M} (h : m_X8_end a1 M = some (x, M2)) : MetI xG V l yX8_end cX8_end 2 (some .int) 1 22 [.ref (V.2.2 0), .int (gI a1)] M x M2 :=
  g_metI hok cal_X8_end.2.2.2 rfl (Nat.le_of_ble_eq_true rfl) (@fun p e R s m args below meth c Q ls C hR hp hl => b_X8_end C hR h hp hl)
set_option maxRecDepth 100000 in
set_option maxHeartbeats 4000000 in
theorem b_X8_text (C : g_CX xG V p R s m args meth c cX8_text 1 (some .int) RX8 114 2834) {res : Int × g_M} (hR : g_RetI xG V p l e R s m args below meth c Q cX8_text .int res.1 res.2)  {M : g_M} {H : Heap} {locs : List Loc} {ls : Array Slot} (h : m_X8_text M = some res) (hp : g_PT xG V M s H locs) (hl : lv_has ls 1 [(0, .ref (V.2.2 0))]) : W p l e R s m args below meth c H locs 0 0 Q (F0 m 0 ls []) := by
  unfold m_X8_text at h
  refine lv_aload_n C.1 C.2.1 dX8_text_0 rfl (lv_at hl 0 rfl) ?_
  refine r_getr (t := 1) C hp xk_0 xs_0 xc_8 xin_8 (j := 0) (by decide) rfl gw_431 rfl dX8_text_1 ?_
  refine r_geti (t := 0) C hp xk_1 xs_1 xc_1 xin_1 (j := 8) (by decide) rfl gw_169 rfl dX8_text_4 ?_
  refine r_iconst C dX8_text_7 ?_
  refine r_icmp_ge (tgt := 21) C h dX8_text_8 (by decide) (fun h => ?_) (fun h => ?_)
  · refine r_iconst C dX8_text_21 ?_
    cases h
    exact hR _ _ _ _ dX8_text_22 rfl hp
  · refine lv_aload_n C.1 C.2.1 dX8_text_11 rfl (lv_at hl 0 rfl) ?_
    refine r_getr (t := 23) C hp xk_0 xs_0 xc_8 xin_8 (j := 2) (by decide) rfl gw_433 rfl dX8_text_12 ?_
    obtain ⟨x11, M12, hr, h⟩ := bW_of h
    refine r_callVI (As := []) (rest := []) C hl.1 hp (c_X4_read l C.2.2.2.2.2.2.2.2.2.2.2 hr) gw_511 gw_512 gw_513 xk_23 xs_23 xc_4 cal_X4_read rfl rfl (Nat.le_of_ble_eq_true rfl) ⟨Nat.le_of_ble_eq_true rfl, Nat.le_of_ble_eq_true rfl⟩ dX8_text_15 (fun H locs hp => ?_)
    refine r_if_ne (tgt := 23) C h dX8_text_18 (by decide) (fun h => ?_) (fun h => ?_)
    · refine lv_aload_n C.1 C.2.1 dX8_text_23 rfl (lv_at hl 0 rfl) ?_
      refine r_getr (t := 31) C hp xk_0 xs_0 xc_8 xin_8 (j := 3) (by decide) rfl gw_434 rfl dX8_text_24 ?_
      refine lv_aload_n C.1 C.2.1 dX8_text_27 rfl (lv_at hl 0 rfl) ?_
      refine r_getr (t := 1) C hp xk_0 xs_0 xc_8 xin_8 (j := 0) (by decide) rfl gw_431 rfl dX8_text_28 ?_
      refine r_geti (t := 0) C hp xk_1 xs_1 xc_1 xin_1 (j := 8) (by decide) rfl gw_169 rfl dX8_text_31 ?_
      obtain ⟨t13, hr, h⟩ := bd_of h
      refine r_callVR (As := [.int (gI (M12 1 8))]) (rest := []) C hl.1 hp (c_X3_textOf l C.2.2.2.2.2.2.2.2.2.2.2 hr) gw_735 gw_736 gw_737 xk_31 xs_31 xc_3 cal_X3_textOf rfl rfl (Nat.le_of_ble_eq_true rfl) ⟨Nat.le_of_ble_eq_true rfl, Nat.le_of_ble_eq_true rfl⟩ dX8_text_34 (fun H locs hp => ?_)
      obtain ⟨ht13, h⟩ := gd_of h
      refine lv_aload_n C.1 C.2.1 dX8_text_37 rfl (lv_at hl 0 rfl) ?_
      refine r_getr (t := 23) C hp xk_0 xs_0 xc_8 xin_8 (j := 2) (by decide) rfl gw_433 rfl dX8_text_38 ?_
      refine r_getr (t := 25) C hp xk_23 xs_23 xc_4 xin_4 (j := 0) (by decide) rfl gw_281 rfl dX8_text_41 ?_
      obtain ⟨M14, hr, h⟩ := bd_of h
      refine r_callVV (As := [.ref (V.2.2 25)]) (rest := []) C hl.1 hp (c_X7_copy l C.2.2.2.2.2.2.2.2.2.2.2 ht13 xT_25 hr) gw_740 gw_741 gw_742 (xT_k0 ht13) (xT_s0 ht13) xc_7 cal_X7_copy rfl rfl (Nat.le_of_ble_eq_true rfl) ⟨Nat.le_of_ble_eq_true rfl, Nat.le_of_ble_eq_true rfl⟩ dX8_text_44 (fun H locs hp => ?_)
      refine lv_aload_n C.1 C.2.1 dX8_text_47 rfl (lv_at hl 0 rfl) ?_
      refine r_getr (t := 1) C hp xk_0 xs_0 xc_8 xin_8 (j := 0) (by decide) rfl gw_431 rfl dX8_text_48 ?_
      refine lv_dup C.1 C.2.1 dX8_text_51 rfl ?_
      refine r_geti (t := 0) C hp xk_1 xs_1 xc_1 xin_1 (j := 8) (by decide) rfl gw_169 rfl dX8_text_52 ?_
      refine r_iconst C dX8_text_55 ?_
      refine r_iadd C dX8_text_56 ?_
      refine r_puti C hp h xk_1 xs_1 xc_1 xin_1 tyX1 tyX1_ok nmX1 (j := 8) (by decide) rfl gw_169 rfl rfl rfl dX8_text_57 (fun M15 H locs h hp => ?_)
      refine lv_aload_n C.1 C.2.1 dX8_text_60 rfl (lv_at hl 0 rfl) ?_
      refine r_getr (t := 1) C hp xk_0 xs_0 xc_8 xin_8 (j := 0) (by decide) rfl gw_431 rfl dX8_text_61 ?_
      refine r_geti (t := 0) C hp xk_1 xs_1 xc_1 xin_1 (j := 8) (by decide) rfl gw_169 rfl dX8_text_64 ?_
      refine r_iconst C dX8_text_67 ?_
      refine r_isub C dX8_text_68 ?_
      cases h
      exact hR _ _ _ _ dX8_text_69 rfl hp
    · refine r_iconst C dX8_text_21 ?_
      cases h
      exact hR _ _ _ _ dX8_text_22 rfl hp
theorem c_X8_text (l : Launch) {V : g_V} (hok : g_ok xG V)  {M : g_M} {x : Int} {M2 : g_M} (h : m_X8_text M = some (x, M2)) : MetI xG V l yX8_text cX8_text 1 (some .int) 114 2834 [.ref (V.2.2 0)] M x M2 :=
  g_metI hok cal_X8_text.2.2.2 rfl (Nat.le_of_ble_eq_true rfl) (@fun p e R s m args below meth c Q ls C hR hp hl => b_X8_text C hR h hp hl)
set_option maxRecDepth 100000 in
set_option maxHeartbeats 4000000 in
theorem b_X8_fault (C : g_CX xG V p R s m args meth c cX8_fault 2 (some .int) RX8 0 0) {res : Int} {M : g_M} (hR : g_RetI xG V p l e R s m args below meth c Q cX8_fault .int res M) {a1 : Int} {H : Heap} {locs : List Loc} {ls : Array Slot} (h : m_X8_fault a1 M = some res) (hp : g_PT xG V M s H locs) (hl : lv_has ls 2 [(0, .ref (V.2.2 0)), (1, .int (gI a1))]) : W p l e R s m args below meth c H locs 0 0 Q (F0 m 0 ls []) := by
  unfold m_X8_fault at h
  refine lv_iload_n C.1 C.2.1 dX8_fault_0 rfl (lv_at hl 1 rfl) ?_
  refine r_if_ne (tgt := 12) C h dX8_fault_1 (by decide) (fun h => ?_) (fun h => ?_)
  · refine lv_iload_n C.1 C.2.1 dX8_fault_12 rfl (lv_at hl 1 rfl) ?_
    refine r_iconst C dX8_fault_13 ?_
    refine r_icmp_ne (tgt := 27) C h dX8_fault_14 (by decide) (fun h => ?_) (fun h => ?_)
    · refine r_iconst C dX8_fault_27 ?_
      cases h
      exact hR _ _ _ _ dX8_fault_28 rfl hp
    · refine lv_aload_n C.1 C.2.1 dX8_fault_17 rfl (lv_at hl 0 rfl) ?_
      refine r_getr (t := 23) C hp xk_0 xs_0 xc_8 xin_8 (j := 2) (by decide) rfl gw_433 rfl dX8_fault_18 ?_
      refine r_geti (t := 0) C hp xk_23 xs_23 xc_4 xin_4 (j := 4) (by decide) rfl gw_288 rfl dX8_fault_21 ?_
      refine r_goto (tgt := 28) C dX8_fault_24 (by decide) ?_
      cases h
      exact hR _ _ _ _ dX8_fault_28 rfl hp
  · refine lv_aload_n C.1 C.2.1 dX8_fault_4 rfl (lv_at hl 0 rfl) ?_
    refine r_getr (t := 23) C hp xk_0 xs_0 xc_8 xin_8 (j := 2) (by decide) rfl gw_433 rfl dX8_fault_5 ?_
    refine r_geti (t := 0) C hp xk_23 xs_23 xc_4 xin_4 (j := 3) (by decide) rfl gw_286 rfl dX8_fault_8 ?_
    cases h
    exact hR _ _ _ _ dX8_fault_11 rfl hp
theorem c_X8_fault (l : Launch) {V : g_V} (hok : g_ok xG V) {a1 : Int} {M : g_M} {x : Int} (h : m_X8_fault a1 M = some x) : MetI xG V l yX8_fault cX8_fault 2 (some .int) 0 0 [.ref (V.2.2 0), .int (gI a1)] M x M :=
  g_metI hok cal_X8_fault.2.2.2 rfl (Nat.le_of_ble_eq_true rfl) (@fun p e R s m args below meth c Q ls C hR hp hl => b_X8_fault C hR h hp hl)
set_option maxRecDepth 100000 in
set_option maxHeartbeats 4000000 in
theorem b_X8_by (C : g_CX xG V p R s m args meth c cX8_by 2 (some .boolean) RX8 1 21) {res : Int × g_M} (hR : g_RetI xG V p l e R s m args below meth c Q cX8_by .boolean res.1 res.2) {a1 : Int} {M : g_M} {H : Heap} {locs : List Loc} {ls : Array Slot} (h : m_X8_by a1 M = some res) (hp : g_PT xG V M s H locs) (hl : lv_has ls 2 [(0, .ref (V.2.2 0)), (1, .int (gI a1))]) : W p l e R s m args below meth c H locs 0 0 Q (F0 m 0 ls []) := by
  unfold m_X8_by at h
  refine r_jn (P := fun J => ∀  (H : Heap) (locs : List Loc) (ls : Array Slot), J  = some res → g_PT xG V M s H locs → lv_has ls 2 [(0, .ref (V.2.2 0)), (1, .int (gI a1))] → W p l e R s m args below meth c H locs 0 0 Q (F0 m 18 ls [])) h ?_ (fun J11 hJ11 h => ?_)
  · intro  H locs ls h hp hl
    refine lv_aload_n C.1 C.2.1 dX8_by_18 rfl (lv_at hl 0 rfl) ?_
    refine r_getr (t := 1) C hp xk_0 xs_0 xc_8 xin_8 (j := 0) (by decide) rfl gw_431 rfl dX8_by_19 ?_
    refine lv_iload_n C.1 C.2.1 dX8_by_22 rfl (lv_at hl 1 rfl) ?_
    refine r_puti C hp h xk_1 xs_1 xc_1 xin_1 tyX1 tyX1_ok nmX1 (j := 9) (by decide) rfl gw_172 rfl rfl rfl dX8_by_23 (fun M13 H locs h hp => ?_)
    refine r_iconst C dX8_by_26 ?_
    cases h
    exact hR _ _ _ _ dX8_by_27 g_nz1 hp
  refine lv_iload_n C.1 C.2.1 dX8_by_0 rfl (lv_at hl 1 rfl) ?_
  refine r_iconst C dX8_by_1 ?_
  refine r_icmp_eq (tgt := 18) C h dX8_by_2 (by decide) (fun h => ?_) (fun h => ?_)
  · exact hJ11  _ _ _ h hp hl
  · refine lv_aload_n C.1 C.2.1 dX8_by_5 rfl (lv_at hl 0 rfl) ?_
    refine r_getr (t := 1) C hp xk_0 xs_0 xc_8 xin_8 (j := 0) (by decide) rfl gw_431 rfl dX8_by_6 ?_
    refine lv_iload_n C.1 C.2.1 dX8_by_9 rfl (lv_at hl 1 rfl) ?_
    obtain ⟨x12, hr, h⟩ := bd_of h
    refine r_callVI (As := [.int (gI a1)]) (rest := []) C hl.1 hp (c_X1_isText l C.2.2.2.2.2.2.2.2.2.2.2 hr) gw_756 gw_757 gw_758 xk_1 xs_1 xc_1 cal_X1_isText rfl rfl (Nat.le_of_ble_eq_true rfl) ⟨Nat.le_of_ble_eq_true rfl, Nat.le_of_ble_eq_true rfl⟩ dX8_by_10 (fun H locs hp => ?_)
    refine r_if_ne (tgt := 18) C h dX8_by_13 (by decide) (fun h => ?_) (fun h => ?_)
    · exact hJ11  _ _ _ h hp hl
    · refine r_iconst C dX8_by_16 ?_
      cases h
      exact hR _ _ _ _ dX8_by_17 g_nz0 hp
theorem c_X8_by (l : Launch) {V : g_V} (hok : g_ok xG V) {a1 : Int} {M : g_M} {x : Int} {M2 : g_M} (h : m_X8_by a1 M = some (x, M2)) : MetI xG V l yX8_by cX8_by 2 (some .boolean) 1 21 [.ref (V.2.2 0), .int (gI a1)] M x M2 :=
  g_metI hok cal_X8_by.2.2.2 rfl (Nat.le_of_ble_eq_true rfl) (@fun p e R s m args below meth c Q ls C hR hp hl => b_X8_by C hR h hp hl)
set_option maxRecDepth 100000 in
set_option maxHeartbeats 4000000 in
theorem b_X8_seat (C : g_CX xG V p R s m args meth c cX8_seat 3 (some .boolean) RX8 3 83) {res : Int × g_M} (hR : g_RetI xG V p l e R s m args below meth c Q cX8_seat .boolean res.1 res.2) {a1 : Int} {a2 : Int} {M : g_M} {H : Heap} {locs : List Loc} {ls : Array Slot} (h : m_X8_seat a1 a2 M = some res) (hp : g_PT xG V M s H locs) (hl : lv_has ls 3 [(0, .ref (V.2.2 0)), (1, .int (gI a1)), (2, .int (gI a2))]) : W p l e R s m args below meth c H locs 0 0 Q (F0 m 0 ls []) := by
  unfold m_X8_seat at h
  refine r_jn (P := fun J => ∀ (M17 : g_M) (H : Heap) (locs : List Loc) (ls : Array Slot), J M17 = some res → g_PT xG V M17 s H locs → lv_has ls 3 [] → W p l e R s m args below meth c H locs 0 0 Q (F0 m 46 ls [])) h ?_ (fun J11 hJ11 h => ?_)
  · intro M17 H locs ls h hp hl
    refine r_iconst C dX8_seat_46 ?_
    cases h
    exact hR _ _ _ _ dX8_seat_47 g_nz0 hp
  refine lv_aload_n C.1 C.2.1 dX8_seat_0 rfl (lv_at hl 0 rfl) ?_
  refine r_getr (t := 1) C hp xk_0 xs_0 xc_8 xin_8 (j := 0) (by decide) rfl gw_431 rfl dX8_seat_1 ?_
  refine lv_iload_n C.1 C.2.1 dX8_seat_4 rfl (lv_at hl 1 rfl) ?_
  obtain ⟨x12, hr, h⟩ := bd_of h
  refine r_callVI (As := [.int (gI a1)]) (rest := []) C hl.1 hp (c_X1_isPerson l C.2.2.2.2.2.2.2.2.2.2.2 hr) gw_764 gw_765 gw_766 xk_1 xs_1 xc_1 cal_X1_isPerson rfl rfl (Nat.le_of_ble_eq_true rfl) ⟨Nat.le_of_ble_eq_true rfl, Nat.le_of_ble_eq_true rfl⟩ dX8_seat_5 (fun H locs hp => ?_)
  refine r_if_eq (tgt := 46) C h dX8_seat_8 (by decide) (fun h => ?_) (fun h => ?_)
  · exact hJ11 _ _ _ _ h hp (lv_sub hl [] rfl)
  · refine lv_iload_n C.1 C.2.1 dX8_seat_11 rfl (lv_at hl 2 rfl) ?_
    obtain ⟨x13, hr, h⟩ := bd_of h
    refine r_callSI (As := [.int (gI a2)]) (rest := []) C hl.1 hp (c_X8_isDigit l C.2.2.2.2.2.2.2.2.2.2.2 hr) gw_488 gw_489 cal_X8_isDigit rfl rfl (Nat.le_of_ble_eq_true rfl) ⟨Nat.le_of_ble_eq_true rfl, Nat.le_of_ble_eq_true rfl⟩ dX8_seat_12 (fun H locs hp => ?_)
    refine r_if_eq (tgt := 46) C h dX8_seat_15 (by decide) (fun h => ?_) (fun h => ?_)
    · exact hJ11 _ _ _ _ h hp (lv_sub hl [] rfl)
    · refine lv_aload_n C.1 C.2.1 dX8_seat_18 rfl (lv_at hl 0 rfl) ?_
      refine r_getr (t := 65) C hp xk_0 xs_0 xc_8 xin_8 (j := 4) (by decide) rfl gw_435 rfl dX8_seat_19 ?_
      refine lv_iload_n C.1 C.2.1 dX8_seat_22 rfl (lv_at hl 1 rfl) ?_
      refine lv_iload_n C.1 C.2.1 dX8_seat_23 rfl (lv_at hl 2 rfl) ?_
      obtain ⟨x14, hr, h⟩ := bd_of h
      refine r_callVI (As := [.int (gI a1), .int (gI a2)]) (rest := []) C hl.1 hp (c_X2_canSeat l C.2.2.2.2.2.2.2.2.2.2.2 hr) gw_768 gw_769 gw_770 xk_65 xs_65 xc_2 cal_X2_canSeat rfl rfl (Nat.le_of_ble_eq_true rfl) ⟨Nat.le_of_ble_eq_true rfl, Nat.le_of_ble_eq_true rfl⟩ dX8_seat_24 (fun H locs hp => ?_)
      refine r_if_eq (tgt := 46) C h dX8_seat_27 (by decide) (fun h => ?_) (fun h => ?_)
      · exact hJ11 _ _ _ _ h hp (lv_sub hl [] rfl)
      · refine lv_aload_n C.1 C.2.1 dX8_seat_30 rfl (lv_at hl 0 rfl) ?_
        refine r_getr (t := 65) C hp xk_0 xs_0 xc_8 xin_8 (j := 4) (by decide) rfl gw_435 rfl dX8_seat_31 ?_
        refine lv_iload_n C.1 C.2.1 dX8_seat_34 rfl (lv_at hl 1 rfl) ?_
        refine lv_iload_n C.1 C.2.1 dX8_seat_35 rfl (lv_at hl 2 rfl) ?_
        obtain ⟨x15, M16, hr, h⟩ := bW_of h
        refine r_callVI (As := [.int (gI a1), .int (gI a2)]) (rest := []) C hl.1 hp (c_X2_seatStep l C.2.2.2.2.2.2.2.2.2.2.2 hr) gw_772 gw_773 gw_774 xk_65 xs_65 xc_2 cal_X2_seatStep rfl rfl (Nat.le_of_ble_eq_true rfl) ⟨Nat.le_of_ble_eq_true rfl, Nat.le_of_ble_eq_true rfl⟩ dX8_seat_36 (fun H locs hp => ?_)
        refine r_if_eq (tgt := 46) C h dX8_seat_39 (by decide) (fun h => ?_) (fun h => ?_)
        · exact hJ11 _ _ _ _ h hp (lv_sub hl [] rfl)
        · refine r_iconst C dX8_seat_42 ?_
          refine r_goto (tgt := 47) C dX8_seat_43 (by decide) ?_
          cases h
          exact hR _ _ _ _ dX8_seat_47 g_nz1 hp
theorem c_X8_seat (l : Launch) {V : g_V} (hok : g_ok xG V) {a1 : Int} {a2 : Int} {M : g_M} {x : Int} {M2 : g_M} (h : m_X8_seat a1 a2 M = some (x, M2)) : MetI xG V l yX8_seat cX8_seat 3 (some .boolean) 3 83 [.ref (V.2.2 0), .int (gI a1), .int (gI a2)] M x M2 :=
  g_metI hok cal_X8_seat.2.2.2 rfl (Nat.le_of_ble_eq_true rfl) (@fun p e R s m args below meth c Q ls C hR hp hl => b_X8_seat C hR h hp hl)
set_option maxRecDepth 100000 in
set_option maxHeartbeats 4000000 in
theorem b_X8_call (C : g_CX xG V p R s m args meth c cX8_call 3 (some .boolean) RX8 4 86) {res : Int × g_M} (hR : g_RetI xG V p l e R s m args below meth c Q cX8_call .boolean res.1 res.2) {a1 : Int} {a2 : Int} {M : g_M} {H : Heap} {locs : List Loc} {ls : Array Slot} (h : m_X8_call a1 a2 M = some res) (hp : g_PT xG V M s H locs) (hl : lv_has ls 3 [(0, .ref (V.2.2 0)), (1, .int (gI a1)), (2, .int (gI a2))]) : W p l e R s m args below meth c H locs 0 0 Q (F0 m 0 ls []) := by
  unfold m_X8_call at h
  refine r_jn (P := fun J => ∀ (M17 : g_M) (H : Heap) (locs : List Loc) (ls : Array Slot), J M17 = some res → g_PT xG V M17 s H locs → lv_has ls 3 [] → W p l e R s m args below meth c H locs 0 0 Q (F0 m 44 ls [])) h ?_ (fun J11 hJ11 h => ?_)
  · intro M17 H locs ls h hp hl
    refine r_iconst C dX8_call_44 ?_
    cases h
    exact hR _ _ _ _ dX8_call_45 g_nz0 hp
  refine lv_iload_n C.1 C.2.1 dX8_call_0 rfl (lv_at hl 1 rfl) ?_
  obtain ⟨x12, hr, h⟩ := bd_of h
  refine r_callSI (As := [.int (gI a1)]) (rest := []) C hl.1 hp (c_X8_isScene l C.2.2.2.2.2.2.2.2.2.2.2 hr) gw_460 gw_461 cal_X8_isScene rfl rfl (Nat.le_of_ble_eq_true rfl) ⟨Nat.le_of_ble_eq_true rfl, Nat.le_of_ble_eq_true rfl⟩ dX8_call_1 (fun H locs hp => ?_)
  refine r_if_eq (tgt := 44) C h dX8_call_4 (by decide) (fun h => ?_) (fun h => ?_)
  · exact hJ11 _ _ _ _ h hp (lv_sub hl [] rfl)
  · refine lv_iload_n C.1 C.2.1 dX8_call_7 rfl (lv_at hl 2 rfl) ?_
    refine r_iconst C dX8_call_8 ?_
    refine r_iconst C dX8_call_9 ?_
    obtain ⟨x13, hr, h⟩ := bd_of h
    refine r_callSI (As := [.int (gI a2), .int (gI 1), .int (gI 3)]) (rest := []) C hl.1 hp (c_X8_within l C.2.2.2.2.2.2.2.2.2.2.2 hr) gw_463 gw_464 cal_X8_within rfl rfl (Nat.le_of_ble_eq_true rfl) ⟨Nat.le_of_ble_eq_true rfl, Nat.le_of_ble_eq_true rfl⟩ dX8_call_10 (fun H locs hp => ?_)
    refine r_if_eq (tgt := 44) C h dX8_call_13 (by decide) (fun h => ?_) (fun h => ?_)
    · exact hJ11 _ _ _ _ h hp (lv_sub hl [] rfl)
    · refine lv_aload_n C.1 C.2.1 dX8_call_16 rfl (lv_at hl 0 rfl) ?_
      refine r_getr (t := 65) C hp xk_0 xs_0 xc_8 xin_8 (j := 4) (by decide) rfl gw_435 rfl dX8_call_17 ?_
      refine lv_iload_n C.1 C.2.1 dX8_call_20 rfl (lv_at hl 1 rfl) ?_
      refine lv_iload_n C.1 C.2.1 dX8_call_21 rfl (lv_at hl 2 rfl) ?_
      obtain ⟨x14, hr, h⟩ := bd_of h
      refine r_callVI (As := [.int (gI a1), .int (gI a2)]) (rest := []) C hl.1 hp (c_X2_canCall l C.2.2.2.2.2.2.2.2.2.2.2 hr) gw_785 gw_786 gw_787 xk_65 xs_65 xc_2 cal_X2_canCall rfl rfl (Nat.le_of_ble_eq_true rfl) ⟨Nat.le_of_ble_eq_true rfl, Nat.le_of_ble_eq_true rfl⟩ dX8_call_22 (fun H locs hp => ?_)
      refine r_if_eq (tgt := 44) C h dX8_call_25 (by decide) (fun h => ?_) (fun h => ?_)
      · exact hJ11 _ _ _ _ h hp (lv_sub hl [] rfl)
      · refine lv_aload_n C.1 C.2.1 dX8_call_28 rfl (lv_at hl 0 rfl) ?_
        refine r_getr (t := 65) C hp xk_0 xs_0 xc_8 xin_8 (j := 4) (by decide) rfl gw_435 rfl dX8_call_29 ?_
        refine lv_iload_n C.1 C.2.1 dX8_call_32 rfl (lv_at hl 1 rfl) ?_
        refine lv_iload_n C.1 C.2.1 dX8_call_33 rfl (lv_at hl 2 rfl) ?_
        obtain ⟨x15, M16, hr, h⟩ := bW_of h
        refine r_callVI (As := [.int (gI a1), .int (gI a2)]) (rest := []) C hl.1 hp (c_X2_callStep l C.2.2.2.2.2.2.2.2.2.2.2 hr) gw_795 gw_796 gw_797 xk_65 xs_65 xc_2 cal_X2_callStep rfl rfl (Nat.le_of_ble_eq_true rfl) ⟨Nat.le_of_ble_eq_true rfl, Nat.le_of_ble_eq_true rfl⟩ dX8_call_34 (fun H locs hp => ?_)
        refine r_if_eq (tgt := 44) C h dX8_call_37 (by decide) (fun h => ?_) (fun h => ?_)
        · exact hJ11 _ _ _ _ h hp (lv_sub hl [] rfl)
        · refine r_iconst C dX8_call_40 ?_
          refine r_goto (tgt := 45) C dX8_call_41 (by decide) ?_
          cases h
          exact hR _ _ _ _ dX8_call_45 g_nz1 hp
theorem c_X8_call (l : Launch) {V : g_V} (hok : g_ok xG V) {a1 : Int} {a2 : Int} {M : g_M} {x : Int} {M2 : g_M} (h : m_X8_call a1 a2 M = some (x, M2)) : MetI xG V l yX8_call cX8_call 3 (some .boolean) 4 86 [.ref (V.2.2 0), .int (gI a1), .int (gI a2)] M x M2 :=
  g_metI hok cal_X8_call.2.2.2 rfl (Nat.le_of_ble_eq_true rfl) (@fun p e R s m args below meth c Q ls C hR hp hl => b_X8_call C hR h hp hl)
set_option maxRecDepth 100000 in
set_option maxHeartbeats 4000000 in
theorem b_X8_mend (C : g_CX xG V p R s m args meth c cX8_mend 2 (some .boolean) RX8 3 82) {res : Int × g_M} (hR : g_RetI xG V p l e R s m args below meth c Q cX8_mend .boolean res.1 res.2) {a1 : Int} {M : g_M} {H : Heap} {locs : List Loc} {ls : Array Slot} (h : m_X8_mend a1 M = some res) (hp : g_PT xG V M s H locs) (hl : lv_has ls 2 [(0, .ref (V.2.2 0)), (1, .int (gI a1))]) : W p l e R s m args below meth c H locs 0 0 Q (F0 m 0 ls []) := by
  unfold m_X8_mend at h
  refine r_jn (P := fun J => ∀ (M16 : g_M) (H : Heap) (locs : List Loc) (ls : Array Slot), J M16 = some res → g_PT xG V M16 s H locs → lv_has ls 2 [] → W p l e R s m args below meth c H locs 0 0 Q (F0 m 33 ls [])) h ?_ (fun J11 hJ11 h => ?_)
  · intro M16 H locs ls h hp hl
    refine r_iconst C dX8_mend_33 ?_
    cases h
    exact hR _ _ _ _ dX8_mend_34 g_nz0 hp
  refine lv_iload_n C.1 C.2.1 dX8_mend_0 rfl (lv_at hl 1 rfl) ?_
  obtain ⟨x12, hr, h⟩ := bd_of h
  refine r_callSI (As := [.int (gI a1)]) (rest := []) C hl.1 hp (c_X8_isScene l C.2.2.2.2.2.2.2.2.2.2.2 hr) gw_460 gw_461 cal_X8_isScene rfl rfl (Nat.le_of_ble_eq_true rfl) ⟨Nat.le_of_ble_eq_true rfl, Nat.le_of_ble_eq_true rfl⟩ dX8_mend_1 (fun H locs hp => ?_)
  refine r_if_eq (tgt := 33) C h dX8_mend_4 (by decide) (fun h => ?_) (fun h => ?_)
  · exact hJ11 _ _ _ _ h hp (lv_sub hl [] rfl)
  · refine lv_aload_n C.1 C.2.1 dX8_mend_7 rfl (lv_at hl 0 rfl) ?_
    refine r_getr (t := 65) C hp xk_0 xs_0 xc_8 xin_8 (j := 4) (by decide) rfl gw_435 rfl dX8_mend_8 ?_
    refine lv_iload_n C.1 C.2.1 dX8_mend_11 rfl (lv_at hl 1 rfl) ?_
    obtain ⟨x13, hr, h⟩ := bd_of h
    refine r_callVI (As := [.int (gI a1)]) (rest := []) C hl.1 hp (c_X2_canMend l C.2.2.2.2.2.2.2.2.2.2.2 hr) gw_803 gw_804 gw_805 xk_65 xs_65 xc_2 cal_X2_canMend rfl rfl (Nat.le_of_ble_eq_true rfl) ⟨Nat.le_of_ble_eq_true rfl, Nat.le_of_ble_eq_true rfl⟩ dX8_mend_12 (fun H locs hp => ?_)
    refine r_if_eq (tgt := 33) C h dX8_mend_15 (by decide) (fun h => ?_) (fun h => ?_)
    · exact hJ11 _ _ _ _ h hp (lv_sub hl [] rfl)
    · refine lv_aload_n C.1 C.2.1 dX8_mend_18 rfl (lv_at hl 0 rfl) ?_
      refine r_getr (t := 65) C hp xk_0 xs_0 xc_8 xin_8 (j := 4) (by decide) rfl gw_435 rfl dX8_mend_19 ?_
      refine lv_iload_n C.1 C.2.1 dX8_mend_22 rfl (lv_at hl 1 rfl) ?_
      obtain ⟨x14, M15, hr, h⟩ := bW_of h
      refine r_callVI (As := [.int (gI a1)]) (rest := []) C hl.1 hp (c_X2_mendStep l C.2.2.2.2.2.2.2.2.2.2.2 hr) gw_807 gw_808 gw_809 xk_65 xs_65 xc_2 cal_X2_mendStep rfl rfl (Nat.le_of_ble_eq_true rfl) ⟨Nat.le_of_ble_eq_true rfl, Nat.le_of_ble_eq_true rfl⟩ dX8_mend_23 (fun H locs hp => ?_)
      refine r_if_eq (tgt := 33) C h dX8_mend_26 (by decide) (fun h => ?_) (fun h => ?_)
      · exact hJ11 _ _ _ _ h hp (lv_sub hl [] rfl)
      · refine r_iconst C dX8_mend_29 ?_
        refine r_goto (tgt := 34) C dX8_mend_30 (by decide) ?_
        cases h
        exact hR _ _ _ _ dX8_mend_34 g_nz1 hp
theorem c_X8_mend (l : Launch) {V : g_V} (hok : g_ok xG V) {a1 : Int} {M : g_M} {x : Int} {M2 : g_M} (h : m_X8_mend a1 M = some (x, M2)) : MetI xG V l yX8_mend cX8_mend 2 (some .boolean) 3 82 [.ref (V.2.2 0), .int (gI a1)] M x M2 :=
  g_metI hok cal_X8_mend.2.2.2 rfl (Nat.le_of_ble_eq_true rfl) (@fun p e R s m args below meth c Q ls C hR hp hl => b_X8_mend C hR h hp hl)
set_option maxRecDepth 100000 in
set_option maxHeartbeats 4000000 in
theorem b_X8_evening (C : g_CX xG V p R s m args meth c cX8_evening 2 (some .int) RX8 6 149) {res : Int × g_M} (hR : g_RetI xG V p l e R s m args below meth c Q cX8_evening .int res.1 res.2) {a1 : Int} {M : g_M} {H : Heap} {locs : List Loc} {ls : Array Slot} (h : m_X8_evening a1 M = some res) (hp : g_PT xG V M s H locs) (hl : lv_has ls 2 [(0, .ref (V.2.2 0)), (1, .int (gI a1))]) : W p l e R s m args below meth c H locs 0 0 Q (F0 m 0 ls []) := by
  unfold m_X8_evening at h
  refine lv_iload_n C.1 C.2.1 dX8_evening_0 rfl (lv_at hl 1 rfl) ?_
  refine r_iconst C dX8_evening_1 ?_
  refine r_bipush C dX8_evening_2 (by decide +kernel) ?_
  obtain ⟨x11, hr, h⟩ := bd_of h
  refine r_callSI (As := [.int (gI a1), .int (gI 1), .int (gI 40)]) (rest := []) C hl.1 hp (c_X8_within l C.2.2.2.2.2.2.2.2.2.2.2 hr) gw_463 gw_464 cal_X8_within rfl rfl (Nat.le_of_ble_eq_true rfl) ⟨Nat.le_of_ble_eq_true rfl, Nat.le_of_ble_eq_true rfl⟩ dX8_evening_4 (fun H locs hp => ?_)
  refine r_if_eq (tgt := 22) C h dX8_evening_7 (by decide) (fun h => ?_) (fun h => ?_)
  · refine r_iconst C dX8_evening_22 ?_
    cases h
    exact hR _ _ _ _ dX8_evening_23 rfl hp
  · refine lv_aload_n C.1 C.2.1 dX8_evening_10 rfl (lv_at hl 0 rfl) ?_
    refine r_getr (t := 65) C hp xk_0 xs_0 xc_8 xin_8 (j := 4) (by decide) rfl gw_435 rfl dX8_evening_11 ?_
    refine lv_iload_n C.1 C.2.1 dX8_evening_14 rfl (lv_at hl 1 rfl) ?_
    obtain ⟨x12, hr, h⟩ := bd_of h
    refine r_callVI (As := [.int (gI a1)]) (rest := []) C hl.1 hp (c_X2_possible l C.2.2.2.2.2.2.2.2.2.2.2 hr) gw_815 gw_816 gw_817 xk_65 xs_65 xc_2 cal_X2_possible rfl rfl (Nat.le_of_ble_eq_true rfl) ⟨Nat.le_of_ble_eq_true rfl, Nat.le_of_ble_eq_true rfl⟩ dX8_evening_15 (fun H locs hp => ?_)
    refine lv_iload_n C.1 C.2.1 dX8_evening_18 rfl (lv_at hl 1 rfl) ?_
    refine r_icmp_ge (tgt := 24) C h dX8_evening_19 (by decide) (fun h => ?_) (fun h => ?_)
    · refine lv_aload_n C.1 C.2.1 dX8_evening_24 rfl (lv_at hl 0 rfl) ?_
      refine r_getr (t := 65) C hp xk_0 xs_0 xc_8 xin_8 (j := 4) (by decide) rfl gw_435 rfl dX8_evening_25 ?_
      refine lv_iload_n C.1 C.2.1 dX8_evening_28 rfl (lv_at hl 1 rfl) ?_
      obtain ⟨x13, M14, hr, h⟩ := bW_of h
      refine r_callVI (As := [.int (gI a1)]) (rest := []) C hl.1 hp (c_X2_holdEvenings l C.2.2.2.2.2.2.2.2.2.2.2 hr) gw_820 gw_821 gw_822 xk_65 xs_65 xc_2 cal_X2_holdEvenings rfl rfl (Nat.le_of_ble_eq_true rfl) ⟨Nat.le_of_ble_eq_true rfl, Nat.le_of_ble_eq_true rfl⟩ dX8_evening_29 (fun H locs hp => ?_)
      cases h
      exact hR _ _ _ _ dX8_evening_32 rfl hp
    · refine r_iconst C dX8_evening_22 ?_
      cases h
      exact hR _ _ _ _ dX8_evening_23 rfl hp
theorem c_X8_evening (l : Launch) {V : g_V} (hok : g_ok xG V) {a1 : Int} {M : g_M} {x : Int} {M2 : g_M} (h : m_X8_evening a1 M = some (x, M2)) : MetI xG V l yX8_evening cX8_evening 2 (some .int) 6 149 [.ref (V.2.2 0), .int (gI a1)] M x M2 :=
  g_metI hok cal_X8_evening.2.2.2 rfl (Nat.le_of_ble_eq_true rfl) (@fun p e R s m args below meth c Q ls C hR hp hl => b_X8_evening C hR h hp hl)
set_option maxRecDepth 100000 in
set_option maxHeartbeats 4000000 in
theorem w_X8_played_L25 (C : g_CX xG V p R s m args meth c cX8_played 4 (some .int) RX8 7 174) {res : Int × g_M} (hR : g_RetI xG V p l e R s m args below meth c Q cX8_played .int res.1 res.2) (t14 : Nat) (ht14 : xT t14)   : ∀ (f : Nat) (x15 : Int) (M16 : g_M) (H : Heap) (locs : List Loc) (ls : Array Slot), m_X8_played_L25 t14  f x15 M16 = some res → g_PT xG V M16 s H locs → lv_has ls 4 [(0, .ref (V.2.2 0)), (2, .ref (V.2.2 t14)), (3, .int (gI x15))] → W p l e R s m args below meth c H locs 0 0 Q (F0 m 25 ls []) := by
  intro f
  induction f with
  | zero => intro x15 M16 H locs ls h hp hl; cases h
  | succ f ih =>
    intro x15 M16 H locs ls h hp hl
    rw [m_X8_played_L25] at h
    refine lv_iload_n C.1 C.2.1 dX8_played_25 rfl (lv_at hl 2 rfl) ?_
    refine lv_aload_n C.1 C.2.1 dX8_played_26 rfl (lv_at hl 1 rfl) ?_
    refine r_geti (t := 0) C hp (xT_k0 ht14) (xT_s0 ht14) xc_7 xin_7 (j := 6) (by decide) rfl gw_261 rfl dX8_played_27 ?_
    refine r_icmp_ge (tgt := 75) C h dX8_played_30 (by decide) (fun h => ?_) (fun h => ?_)
    · refine r_iconst C dX8_played_75 ?_
      cases h
      exact hR _ _ _ _ dX8_played_76 rfl hp
    · refine lv_aload_n C.1 C.2.1 dX8_played_33 rfl (lv_at hl 0 rfl) ?_
      refine r_getr (t := 65) C hp xk_0 xs_0 xc_8 xin_8 (j := 4) (by decide) rfl gw_435 rfl dX8_played_34 ?_
      refine lv_aload_n C.1 C.2.1 dX8_played_37 rfl (lv_at hl 1 rfl) ?_
      refine r_getr (t := (t14 + 4)) C hp (xT_k0 ht14) (xT_s0 ht14) xc_7 xin_7 (j := 4) (by decide) rfl gw_257 rfl dX8_played_38 ?_
      refine lv_iload_n C.1 C.2.1 dX8_played_41 rfl (lv_at hl 2 rfl) ?_
      refine r_iald C hp h (xT_k4 ht14) (xT_s4 ht14) dX8_played_42 (fun h => ?_)
      refine lv_aload_n C.1 C.2.1 dX8_played_43 rfl (lv_at hl 1 rfl) ?_
      refine lv_iload_n C.1 C.2.1 dX8_played_44 rfl (lv_at hl 2 rfl) ?_
      refine r_iconst C dX8_played_45 ?_
      obtain ⟨x17, hr, h⟩ := bd_of h
      refine r_callVI (As := [.int (gI x15), .int (gI 0)]) (rest := [.int (gI (M16 (t14 + 4) (gs x15).toNat)), .ref (V.2.2 65)]) C hl.1 hp (c_X7_numberOf l C.2.2.2.2.2.2.2.2.2.2.2 ht14 hr) gw_910 gw_911 gw_912 (xT_k0 ht14) (xT_s0 ht14) xc_7 cal_X7_numberOf rfl rfl (Nat.le_of_ble_eq_true rfl) ⟨Nat.le_of_ble_eq_true rfl, Nat.le_of_ble_eq_true rfl⟩ dX8_played_46 (fun H locs hp => ?_)
      refine lv_aload_n C.1 C.2.1 dX8_played_49 rfl (lv_at hl 1 rfl) ?_
      refine lv_iload_n C.1 C.2.1 dX8_played_50 rfl (lv_at hl 2 rfl) ?_
      refine r_iconst C dX8_played_51 ?_
      obtain ⟨x18, hr, h⟩ := bd_of h
      refine r_callVI (As := [.int (gI x15), .int (gI 1)]) (rest := [.int (gI x17), .int (gI (M16 (t14 + 4) (gs x15).toNat)), .ref (V.2.2 65)]) C hl.1 hp (c_X7_numberOf l C.2.2.2.2.2.2.2.2.2.2.2 ht14 hr) gw_910 gw_911 gw_912 (xT_k0 ht14) (xT_s0 ht14) xc_7 cal_X7_numberOf rfl rfl (Nat.le_of_ble_eq_true rfl) ⟨Nat.le_of_ble_eq_true rfl, Nat.le_of_ble_eq_true rfl⟩ dX8_played_52 (fun H locs hp => ?_)
      refine lv_aload_n C.1 C.2.1 dX8_played_55 rfl (lv_at hl 1 rfl) ?_
      refine lv_iload_n C.1 C.2.1 dX8_played_56 rfl (lv_at hl 2 rfl) ?_
      refine r_iconst C dX8_played_57 ?_
      obtain ⟨x19, hr, h⟩ := bd_of h
      refine r_callVI (As := [.int (gI x15), .int (gI 2)]) (rest := [.int (gI x18), .int (gI x17), .int (gI (M16 (t14 + 4) (gs x15).toNat)), .ref (V.2.2 65)]) C hl.1 hp (c_X7_numberOf l C.2.2.2.2.2.2.2.2.2.2.2 ht14 hr) gw_910 gw_911 gw_912 (xT_k0 ht14) (xT_s0 ht14) xc_7 cal_X7_numberOf rfl rfl (Nat.le_of_ble_eq_true rfl) ⟨Nat.le_of_ble_eq_true rfl, Nat.le_of_ble_eq_true rfl⟩ dX8_played_58 (fun H locs hp => ?_)
      obtain ⟨x20, M21, hr, h⟩ := bW_of h
      refine r_callVI (As := [.int (gI (M16 (t14 + 4) (gs x15).toNat)), .int (gI x17), .int (gI x18), .int (gI x19)]) (rest := []) C hl.1 hp (c_X2_perform l C.2.2.2.2.2.2.2.2.2.2.2 hr) gw_914 gw_915 gw_916 xk_65 xs_65 xc_2 cal_X2_perform rfl rfl (Nat.le_of_ble_eq_true rfl) ⟨Nat.le_of_ble_eq_true rfl, Nat.le_of_ble_eq_true rfl⟩ dX8_played_61 (fun H locs hp => ?_)
      refine r_if_ne (tgt := 69) C h dX8_played_64 (by decide) (fun h => ?_) (fun h => ?_)
      · refine r_iinc (lv' := fun x22 => [(3, .int (gI x22)), (0, .ref (V.2.2 0)), (2, .ref (V.2.2 t14))]) C h dX8_played_69 hl (j := 2) rfl (by decide) (fun _ => rfl) (fun x22 ls h hl => ?_)
        refine r_goto (tgt := 25) C dX8_played_72 (by decide) ?_
        exact ih _ _ _ _ _ h hp (lv_sub hl [1, 2, 0] rfl)
      · refine lv_iload_n C.1 C.2.1 dX8_played_67 rfl (lv_at hl 2 rfl) ?_
        cases h
        exact hR _ _ _ _ dX8_played_68 rfl hp
set_option maxRecDepth 100000 in
set_option maxHeartbeats 4000000 in
theorem b_X8_played (C : g_CX xG V p R s m args meth c cX8_played 4 (some .int) RX8 7 174) {res : Int × g_M} (hR : g_RetI xG V p l e R s m args below meth c Q cX8_played .int res.1 res.2) {a1 : Int} {M : g_M} {H : Heap} {locs : List Loc} {ls : Array Slot} (h : m_X8_played a1 M = some res) (hp : g_PT xG V M s H locs) (hl : lv_has ls 4 [(0, .ref (V.2.2 0)), (1, .int (gI a1))]) : W p l e R s m args below meth c H locs 0 0 Q (F0 m 0 ls []) := by
  unfold m_X8_played at h
  refine lv_aload_n C.1 C.2.1 dX8_played_0 rfl (lv_at hl 0 rfl) ?_
  refine r_getr (t := 1) C hp xk_0 xs_0 xc_8 xin_8 (j := 0) (by decide) rfl gw_431 rfl dX8_played_1 ?_
  refine lv_iload_n C.1 C.2.1 dX8_played_4 rfl (lv_at hl 1 rfl) ?_
  obtain ⟨x11, hr, h⟩ := bd_of h
  refine r_callVI (As := [.int (gI a1)]) (rest := []) C hl.1 hp (c_X1_isText l C.2.2.2.2.2.2.2.2.2.2.2 hr) gw_756 gw_757 gw_758 xk_1 xs_1 xc_1 cal_X1_isText rfl rfl (Nat.le_of_ble_eq_true rfl) ⟨Nat.le_of_ble_eq_true rfl, Nat.le_of_ble_eq_true rfl⟩ dX8_played_5 (fun H locs hp => ?_)
  refine r_if_ne (tgt := 14) C h dX8_played_8 (by decide) (fun h => ?_) (fun h => ?_)
  · refine lv_aload_n C.1 C.2.1 dX8_played_14 rfl (lv_at hl 0 rfl) ?_
    refine r_getr (t := 31) C hp xk_0 xs_0 xc_8 xin_8 (j := 3) (by decide) rfl gw_434 rfl dX8_played_15 ?_
    refine lv_iload_n C.1 C.2.1 dX8_played_18 rfl (lv_at hl 1 rfl) ?_
    obtain ⟨t12, hr, h⟩ := bd_of h
    refine r_callVR (As := [.int (gI a1)]) (rest := []) C hl.1 hp (c_X3_textOf l C.2.2.2.2.2.2.2.2.2.2.2 hr) gw_735 gw_736 gw_737 xk_31 xs_31 xc_3 cal_X3_textOf rfl rfl (Nat.le_of_ble_eq_true rfl) ⟨Nat.le_of_ble_eq_true rfl, Nat.le_of_ble_eq_true rfl⟩ dX8_played_19 (fun H locs hp => ?_)
    obtain ⟨ht12, h⟩ := gd_of h
    refine lv_astore_n (lv' := [(2, .ref (V.2.2 t12)), (0, .ref (V.2.2 0)), (1, .int (gI a1))]) C.1 C.2.1 dX8_played_22 rfl hl (by decide) rfl (fun ls hl => ?_)
    refine r_iconst C dX8_played_23 ?_
    refine r_istore_n (lv' := fun x13 => [(3, .int (gI x13)), (2, .ref (V.2.2 t12)), (0, .ref (V.2.2 0)), (1, .int (gI a1))]) C h dX8_played_24 rfl hl (by decide) (fun _ => rfl) (fun x13 ls h hl => ?_)
    refine w_X8_played_L25 C hR _ ht12 _ _ _ H locs ls h hp (lv_sub hl [2, 1, 0] rfl)
  · refine r_bipush C dX8_played_11 (by decide +kernel) ?_
    cases h
    exact hR _ _ _ _ dX8_played_13 rfl hp
theorem c_X8_played (l : Launch) {V : g_V} (hok : g_ok xG V) {a1 : Int} {M : g_M} {x : Int} {M2 : g_M} (h : m_X8_played a1 M = some (x, M2)) : MetI xG V l yX8_played cX8_played 4 (some .int) 7 174 [.ref (V.2.2 0), .int (gI a1)] M x M2 :=
  g_metI hok cal_X8_played.2.2.2 rfl (Nat.le_of_ble_eq_true rfl) (@fun p e R s m args below meth c Q ls C hR hp hl => b_X8_played C hR h hp hl)
set_option maxRecDepth 100000 in
set_option maxHeartbeats 4000000 in
theorem b_X8_years (C : g_CX xG V p R s m args meth c cX8_years 3 (some .int) RX8 7 173) {res : Int × g_M} (hR : g_RetI xG V p l e R s m args below meth c Q cX8_years .int res.1 res.2) {a1 : Int} {a2 : Int} {M : g_M} {H : Heap} {locs : List Loc} {ls : Array Slot} (h : m_X8_years a1 a2 M = some res) (hp : g_PT xG V M s H locs) (hl : lv_has ls 3 [(0, .ref (V.2.2 0)), (1, .int (gI a1)), (2, .int (gI a2))]) : W p l e R s m args below meth c H locs 0 0 Q (F0 m 0 ls []) := by
  unfold m_X8_years at h
  refine lv_iload_n C.1 C.2.1 dX8_years_0 rfl (lv_at hl 1 rfl) ?_
  refine r_iconst C dX8_years_1 ?_
  refine r_sipush C dX8_years_2 (by decide +kernel) ?_
  obtain ⟨x11, hr, h⟩ := bd_of h
  refine r_callSI (As := [.int (gI a1), .int (gI 0), .int (gI 9999)]) (rest := []) C hl.1 hp (c_X8_within l C.2.2.2.2.2.2.2.2.2.2.2 hr) gw_463 gw_464 cal_X8_within rfl rfl (Nat.le_of_ble_eq_true rfl) ⟨Nat.le_of_ble_eq_true rfl, Nat.le_of_ble_eq_true rfl⟩ dX8_years_5 (fun H locs hp => ?_)
  refine r_if_eq (tgt := 21) C h dX8_years_8 (by decide) (fun h => ?_) (fun h => ?_)
  · refine r_iconst C dX8_years_21 ?_
    cases h
    exact hR _ _ _ _ dX8_years_22 rfl hp
  · refine lv_iload_n C.1 C.2.1 dX8_years_11 rfl (lv_at hl 2 rfl) ?_
    refine r_iconst C dX8_years_12 ?_
    refine r_bipush C dX8_years_13 (by decide +kernel) ?_
    obtain ⟨x12, hr, h⟩ := bd_of h
    refine r_callSI (As := [.int (gI a2), .int (gI 1), .int (gI 40)]) (rest := []) C hl.1 hp (c_X8_within l C.2.2.2.2.2.2.2.2.2.2.2 hr) gw_463 gw_464 cal_X8_within rfl rfl (Nat.le_of_ble_eq_true rfl) ⟨Nat.le_of_ble_eq_true rfl, Nat.le_of_ble_eq_true rfl⟩ dX8_years_15 (fun H locs hp => ?_)
    refine r_if_ne (tgt := 23) C h dX8_years_18 (by decide) (fun h => ?_) (fun h => ?_)
    · refine lv_aload_n C.1 C.2.1 dX8_years_23 rfl (lv_at hl 0 rfl) ?_
      refine r_getr (t := 65) C hp xk_0 xs_0 xc_8 xin_8 (j := 4) (by decide) rfl gw_435 rfl dX8_years_24 ?_
      refine lv_iload_n C.1 C.2.1 dX8_years_27 rfl (lv_at hl 1 rfl) ?_
      refine lv_iload_n C.1 C.2.1 dX8_years_28 rfl (lv_at hl 2 rfl) ?_
      obtain ⟨M13, hr, h⟩ := bd_of h
      refine r_callVV (As := [.int (gI a1), .int (gI a2)]) (rest := []) C hl.1 hp (c_X2_passYears l C.2.2.2.2.2.2.2.2.2.2.2 hr) gw_933 gw_934 gw_935 xk_65 xs_65 xc_2 cal_X2_passYears rfl rfl (Nat.le_of_ble_eq_true rfl) ⟨Nat.le_of_ble_eq_true rfl, Nat.le_of_ble_eq_true rfl⟩ dX8_years_29 (fun H locs hp => ?_)
      refine lv_aload_n C.1 C.2.1 dX8_years_32 rfl (lv_at hl 0 rfl) ?_
      refine r_getr (t := 1) C hp xk_0 xs_0 xc_8 xin_8 (j := 0) (by decide) rfl gw_431 rfl dX8_years_33 ?_
      refine r_getr (t := 2) C hp xk_1 xs_1 xc_1 xin_1 (j := 0) (by decide) rfl gw_147 rfl dX8_years_36 ?_
      refine r_bipush C dX8_years_39 (by decide +kernel) ?_
      refine r_iald C hp h xk_2 xs_2 dX8_years_41 (fun h => ?_)
      cases h
      exact hR _ _ _ _ dX8_years_42 rfl hp
    · refine r_iconst C dX8_years_21 ?_
      cases h
      exact hR _ _ _ _ dX8_years_22 rfl hp
theorem c_X8_years (l : Launch) {V : g_V} (hok : g_ok xG V) {a1 : Int} {a2 : Int} {M : g_M} {x : Int} {M2 : g_M} (h : m_X8_years a1 a2 M = some (x, M2)) : MetI xG V l yX8_years cX8_years 3 (some .int) 7 173 [.ref (V.2.2 0), .int (gI a1), .int (gI a2)] M x M2 :=
  g_metI hok cal_X8_years.2.2.2 rfl (Nat.le_of_ble_eq_true rfl) (@fun p e R s m args below meth c Q ls C hR hp hl => b_X8_years C hR h hp hl)
set_option maxRecDepth 100000 in
set_option maxHeartbeats 4000000 in
theorem b_X8_undo (C : g_CX xG V p R s m args meth c cX8_undo 1 (some .int) RX8 2 61) {res : Int × g_M} (hR : g_RetI xG V p l e R s m args below meth c Q cX8_undo .int res.1 res.2)  {M : g_M} {H : Heap} {locs : List Loc} {ls : Array Slot} (h : m_X8_undo M = some res) (hp : g_PT xG V M s H locs) (hl : lv_has ls 1 [(0, .ref (V.2.2 0))]) : W p l e R s m args below meth c H locs 0 0 Q (F0 m 0 ls []) := by
  unfold m_X8_undo at h
  refine lv_aload_n C.1 C.2.1 dX8_undo_0 rfl (lv_at hl 0 rfl) ?_
  refine r_getr (t := 1) C hp xk_0 xs_0 xc_8 xin_8 (j := 0) (by decide) rfl gw_431 rfl dX8_undo_1 ?_
  refine r_geti (t := 0) C hp xk_1 xs_1 xc_1 xin_1 (j := 3) (by decide) rfl gw_151 rfl dX8_undo_4 ?_
  refine r_if_ne (tgt := 14) C h dX8_undo_7 (by decide) (fun h => ?_) (fun h => ?_)
  · refine lv_aload_n C.1 C.2.1 dX8_undo_14 rfl (lv_at hl 0 rfl) ?_
    refine r_getr (t := 1) C hp xk_0 xs_0 xc_8 xin_8 (j := 0) (by decide) rfl gw_431 rfl dX8_undo_15 ?_
    obtain ⟨x11, M12, hr, h⟩ := bW_of h
    refine r_callVI (As := []) (rest := []) C hl.1 hp (c_X1_takeBack l C.2.2.2.2.2.2.2.2.2.2.2 hr) gw_945 gw_946 gw_947 xk_1 xs_1 xc_1 cal_X1_takeBack rfl rfl (Nat.le_of_ble_eq_true rfl) ⟨Nat.le_of_ble_eq_true rfl, Nat.le_of_ble_eq_true rfl⟩ dX8_undo_18 (fun H locs hp => ?_)
    cases h
    exact hR _ _ _ _ dX8_undo_21 rfl hp
  · refine r_iconst C dX8_undo_10 ?_
    refine r_goto (tgt := 21) C dX8_undo_11 (by decide) ?_
    cases h
    exact hR _ _ _ _ dX8_undo_21 rfl hp
theorem c_X8_undo (l : Launch) {V : g_V} (hok : g_ok xG V)  {M : g_M} {x : Int} {M2 : g_M} (h : m_X8_undo M = some (x, M2)) : MetI xG V l yX8_undo cX8_undo 1 (some .int) 2 61 [.ref (V.2.2 0)] M x M2 :=
  g_metI hok cal_X8_undo.2.2.2 rfl (Nat.le_of_ble_eq_true rfl) (@fun p e R s m args below meth c Q ls C hR hp hl => b_X8_undo C hR h hp hl)
set_option maxRecDepth 100000 in
set_option maxHeartbeats 4000000 in
theorem b_X8_of (C : g_CX xG V p R s m args meth c cX8_of 3 (some .int) RX8 4 85) {res : Int × g_M} (hR : g_RetI xG V p l e R s m args below meth c Q cX8_of .int res.1 res.2) {a1 : Int} {a2 : Int} {M : g_M} {H : Heap} {locs : List Loc} {ls : Array Slot} (h : m_X8_of a1 a2 M = some res) (hp : g_PT xG V M s H locs) (hl : lv_has ls 3 [(0, .ref (V.2.2 0)), (1, .int (gI a1)), (2, .int (gI a2))]) : W p l e R s m args below meth c H locs 0 0 Q (F0 m 0 ls []) := by
  unfold m_X8_of at h
  refine lv_aload_n C.1 C.2.1 dX8_of_0 rfl (lv_at hl 0 rfl) ?_
  refine r_getr (t := 1) C hp xk_0 xs_0 xc_8 xin_8 (j := 0) (by decide) rfl gw_431 rfl dX8_of_1 ?_
  refine lv_iload_n C.1 C.2.1 dX8_of_4 rfl (lv_at hl 1 rfl) ?_
  obtain ⟨x11, hr, h⟩ := bd_of h
  refine r_callVI (As := [.int (gI a1)]) (rest := []) C hl.1 hp (c_X1_isPerson l C.2.2.2.2.2.2.2.2.2.2.2 hr) gw_764 gw_765 gw_766 xk_1 xs_1 xc_1 cal_X1_isPerson rfl rfl (Nat.le_of_ble_eq_true rfl) ⟨Nat.le_of_ble_eq_true rfl, Nat.le_of_ble_eq_true rfl⟩ dX8_of_5 (fun H locs hp => ?_)
  refine r_if_ne (tgt := 13) C h dX8_of_8 (by decide) (fun h => ?_) (fun h => ?_)
  · refine lv_iload_n C.1 C.2.1 dX8_of_13 rfl (lv_at hl 2 rfl) ?_
    refine r_ite h (fun hv h => ?_) (fun hv0 h => ?_)
    · refine r_tswIn (tgt := 44) (v := 0) C hv dX8_of_14 (by decide) rfl (by decide) ?_
      refine lv_aload_n C.1 C.2.1 dX8_of_44 rfl (lv_at hl 0 rfl) ?_
      refine r_getr (t := 1) C hp xk_0 xs_0 xc_8 xin_8 (j := 0) (by decide) rfl gw_431 rfl dX8_of_45 ?_
      refine r_getr (t := 6) C hp xk_1 xs_1 xc_1 xin_1 (j := 6) (by decide) rfl gw_163 rfl dX8_of_48 ?_
      refine lv_iload_n C.1 C.2.1 dX8_of_51 rfl (lv_at hl 1 rfl) ?_
      refine r_iald C hp h xk_6 xs_6 dX8_of_52 (fun h => ?_)
      cases h
      exact hR _ _ _ _ dX8_of_53 rfl hp
    refine r_ite h (fun hv h => ?_) (fun hv1 h => ?_)
    · refine r_tswIn (tgt := 54) (v := 1) C hv dX8_of_14 (by decide) rfl (by decide) ?_
      refine lv_aload_n C.1 C.2.1 dX8_of_54 rfl (lv_at hl 0 rfl) ?_
      refine r_getr (t := 1) C hp xk_0 xs_0 xc_8 xin_8 (j := 0) (by decide) rfl gw_431 rfl dX8_of_55 ?_
      refine r_getr (t := 2) C hp xk_1 xs_1 xc_1 xin_1 (j := 0) (by decide) rfl gw_147 rfl dX8_of_58 ?_
      refine r_iconst C dX8_of_61 ?_
      refine lv_iload_n C.1 C.2.1 dX8_of_62 rfl (lv_at hl 1 rfl) ?_
      refine r_iadd C dX8_of_63 ?_
      refine r_iald C hp h xk_2 xs_2 dX8_of_64 (fun h => ?_)
      cases h
      exact hR _ _ _ _ dX8_of_65 rfl hp
    refine r_ite h (fun hv h => ?_) (fun hv2 h => ?_)
    · refine r_tswIn (tgt := 66) (v := 2) C hv dX8_of_14 (by decide) rfl (by decide) ?_
      refine lv_aload_n C.1 C.2.1 dX8_of_66 rfl (lv_at hl 0 rfl) ?_
      refine r_getr (t := 1) C hp xk_0 xs_0 xc_8 xin_8 (j := 0) (by decide) rfl gw_431 rfl dX8_of_67 ?_
      refine r_getr (t := 2) C hp xk_1 xs_1 xc_1 xin_1 (j := 0) (by decide) rfl gw_147 rfl dX8_of_70 ?_
      refine r_bipush C dX8_of_73 (by decide +kernel) ?_
      refine lv_iload_n C.1 C.2.1 dX8_of_75 rfl (lv_at hl 1 rfl) ?_
      refine r_iadd C dX8_of_76 ?_
      refine r_iald C hp h xk_2 xs_2 dX8_of_77 (fun h => ?_)
      cases h
      exact hR _ _ _ _ dX8_of_78 rfl hp
    refine r_ite h (fun hv h => ?_) (fun hv3 h => ?_)
    · refine r_tswIn (tgt := 79) (v := 3) C hv dX8_of_14 (by decide) rfl (by decide) ?_
      refine lv_aload_n C.1 C.2.1 dX8_of_79 rfl (lv_at hl 0 rfl) ?_
      refine r_getr (t := 31) C hp xk_0 xs_0 xc_8 xin_8 (j := 3) (by decide) rfl gw_434 rfl dX8_of_80 ?_
      obtain ⟨M12, hr, h⟩ := bd_of h
      refine r_callVV (As := []) (rest := []) C hl.1 hp (c_X3_lookAround l C.2.2.2.2.2.2.2.2.2.2.2 hr) gw_953 gw_829 gw_830 xk_31 xs_31 xc_3 cal_X3_lookAround rfl rfl (Nat.le_of_ble_eq_true rfl) ⟨Nat.le_of_ble_eq_true rfl, Nat.le_of_ble_eq_true rfl⟩ dX8_of_83 (fun H locs hp => ?_)
      refine lv_aload_n C.1 C.2.1 dX8_of_86 rfl (lv_at hl 0 rfl) ?_
      refine r_getr (t := 31) C hp xk_0 xs_0 xc_8 xin_8 (j := 3) (by decide) rfl gw_434 rfl dX8_of_87 ?_
      refine lv_aload_n C.1 C.2.1 dX8_of_90 rfl (lv_at hl 0 rfl) ?_
      refine r_getr (t := 1) C hp xk_0 xs_0 xc_8 xin_8 (j := 0) (by decide) rfl gw_431 rfl dX8_of_91 ?_
      refine r_geti (t := 0) C hp xk_1 xs_1 xc_1 xin_1 (j := 9) (by decide) rfl gw_172 rfl dX8_of_94 ?_
      refine lv_iload_n C.1 C.2.1 dX8_of_97 rfl (lv_at hl 1 rfl) ?_
      refine r_iconst C dX8_of_98 ?_
      obtain ⟨x13, M14, hr, h⟩ := bW_of h
      refine r_callVI (As := [.int (gI (M12 1 9)), .int (gI a1), .int (gI 1)]) (rest := []) C hl.1 hp (c_X3_gladdensSaid l C.2.2.2.2.2.2.2.2.2.2.2 hr) gw_954 gw_899 gw_900 xk_31 xs_31 xc_3 cal_X3_gladdensSaid rfl rfl (Nat.le_of_ble_eq_true rfl) ⟨Nat.le_of_ble_eq_true rfl, Nat.le_of_ble_eq_true rfl⟩ dX8_of_99 (fun H locs hp => ?_)
      cases h
      exact hR _ _ _ _ dX8_of_102 rfl hp
    have hd : W p l e R s m args below meth c H locs 0 0 Q (F0 m 103 ls []) := by
      refine r_iconst C dX8_of_103 ?_
      cases h
      exact hR _ _ _ _ dX8_of_104 rfl hp
    exact r_tswOut (tgt := 103) C dX8_of_14 (by omega) (by decide) hd
  · refine r_iconst C dX8_of_11 ?_
    cases h
    exact hR _ _ _ _ dX8_of_12 rfl hp
theorem c_X8_of (l : Launch) {V : g_V} (hok : g_ok xG V) {a1 : Int} {a2 : Int} {M : g_M} {x : Int} {M2 : g_M} (h : m_X8_of a1 a2 M = some (x, M2)) : MetI xG V l yX8_of cX8_of 3 (some .int) 4 85 [.ref (V.2.2 0), .int (gI a1), .int (gI a2)] M x M2 :=
  g_metI hok cal_X8_of.2.2.2 rfl (Nat.le_of_ble_eq_true rfl) (@fun p e R s m args below meth c Q ls C hR hp hl => b_X8_of C hR h hp hl)
set_option maxRecDepth 100000 in
set_option maxHeartbeats 4000000 in
theorem b_X8_ofScene (C : g_CX xG V p R s m args meth c cX8_ofScene 3 (some .int) RX8 4 85) {res : Int × g_M} (hR : g_RetI xG V p l e R s m args below meth c Q cX8_ofScene .int res.1 res.2) {a1 : Int} {a2 : Int} {M : g_M} {H : Heap} {locs : List Loc} {ls : Array Slot} (h : m_X8_ofScene a1 a2 M = some res) (hp : g_PT xG V M s H locs) (hl : lv_has ls 3 [(0, .ref (V.2.2 0)), (1, .int (gI a1)), (2, .int (gI a2))]) : W p l e R s m args below meth c H locs 0 0 Q (F0 m 0 ls []) := by
  unfold m_X8_ofScene at h
  refine lv_iload_n C.1 C.2.1 dX8_ofScene_0 rfl (lv_at hl 1 rfl) ?_
  obtain ⟨x11, hr, h⟩ := bd_of h
  refine r_callSI (As := [.int (gI a1)]) (rest := []) C hl.1 hp (c_X8_isScene l C.2.2.2.2.2.2.2.2.2.2.2 hr) gw_460 gw_461 cal_X8_isScene rfl rfl (Nat.le_of_ble_eq_true rfl) ⟨Nat.le_of_ble_eq_true rfl, Nat.le_of_ble_eq_true rfl⟩ dX8_ofScene_1 (fun H locs hp => ?_)
  refine r_if_ne (tgt := 9) C h dX8_ofScene_4 (by decide) (fun h => ?_) (fun h => ?_)
  · refine lv_iload_n C.1 C.2.1 dX8_ofScene_9 rfl (lv_at hl 2 rfl) ?_
    obtain ⟨x12, hr, h⟩ := bd_of h
    refine r_callSI (As := [.int (gI a2)]) (rest := []) C hl.1 hp (c_X8_isCue l C.2.2.2.2.2.2.2.2.2.2.2 hr) gw_466 gw_467 cal_X8_isCue rfl rfl (Nat.le_of_ble_eq_true rfl) ⟨Nat.le_of_ble_eq_true rfl, Nat.le_of_ble_eq_true rfl⟩ dX8_ofScene_10 (fun H locs hp => ?_)
    refine r_if_eq (tgt := 26) C h dX8_ofScene_13 (by decide) (fun h => ?_) (fun h => ?_)
    · refine lv_iload_n C.1 C.2.1 dX8_ofScene_26 rfl (lv_at hl 2 rfl) ?_
      refine r_ite h (fun hv h => ?_) (fun hv4 h => ?_)
      · refine r_tswIn (tgt := 56) (v := 4) C hv dX8_ofScene_27 (by decide) rfl (by decide) ?_
        refine lv_aload_n C.1 C.2.1 dX8_ofScene_56 rfl (lv_at hl 0 rfl) ?_
        refine r_getr (t := 1) C hp xk_0 xs_0 xc_8 xin_8 (j := 0) (by decide) rfl gw_431 rfl dX8_ofScene_57 ?_
        refine r_getr (t := 4) C hp xk_1 xs_1 xc_1 xin_1 (j := 4) (by decide) rfl gw_154 rfl dX8_ofScene_60 ?_
        refine lv_iload_n C.1 C.2.1 dX8_ofScene_63 rfl (lv_at hl 1 rfl) ?_
        refine r_iconst C dX8_ofScene_64 ?_
        refine r_imul C dX8_ofScene_65 ?_
        refine r_iald C hp h xk_4 xs_4 dX8_ofScene_66 (fun h => ?_)
        cases h
        exact hR _ _ _ _ dX8_ofScene_67 rfl hp
      refine r_ite h (fun hv h => ?_) (fun hv5 h => ?_)
      · refine r_tswIn (tgt := 68) (v := 5) C hv dX8_ofScene_27 (by decide) rfl (by decide) ?_
        refine lv_aload_n C.1 C.2.1 dX8_ofScene_68 rfl (lv_at hl 0 rfl) ?_
        refine r_getr (t := 1) C hp xk_0 xs_0 xc_8 xin_8 (j := 0) (by decide) rfl gw_431 rfl dX8_ofScene_69 ?_
        refine r_getr (t := 5) C hp xk_1 xs_1 xc_1 xin_1 (j := 5) (by decide) rfl gw_156 rfl dX8_ofScene_72 ?_
        refine lv_iload_n C.1 C.2.1 dX8_ofScene_75 rfl (lv_at hl 1 rfl) ?_
        refine r_iald C hp h xk_5 xs_5 dX8_ofScene_76 (fun h => ?_)
        cases h
        exact hR _ _ _ _ dX8_ofScene_77 rfl hp
      refine r_ite h (fun hv h => ?_) (fun hv6 h => ?_)
      · refine r_tswIn (tgt := 78) (v := 6) C hv dX8_ofScene_27 (by decide) rfl (by decide) ?_
        refine lv_aload_n C.1 C.2.1 dX8_ofScene_78 rfl (lv_at hl 0 rfl) ?_
        refine r_getr (t := 1) C hp xk_0 xs_0 xc_8 xin_8 (j := 0) (by decide) rfl gw_431 rfl dX8_ofScene_79 ?_
        refine r_getr (t := 2) C hp xk_1 xs_1 xc_1 xin_1 (j := 0) (by decide) rfl gw_147 rfl dX8_ofScene_82 ?_
        refine r_bipush C dX8_ofScene_85 (by decide +kernel) ?_
        refine lv_iload_n C.1 C.2.1 dX8_ofScene_87 rfl (lv_at hl 1 rfl) ?_
        refine r_iadd C dX8_ofScene_88 ?_
        refine r_iald C hp h xk_2 xs_2 dX8_ofScene_89 (fun h => ?_)
        cases h
        exact hR _ _ _ _ dX8_ofScene_90 rfl hp
      refine r_ite h (fun hv h => ?_) (fun hv7 h => ?_)
      · refine r_tswIn (tgt := 91) (v := 7) C hv dX8_ofScene_27 (by decide) rfl (by decide) ?_
        refine lv_aload_n C.1 C.2.1 dX8_ofScene_91 rfl (lv_at hl 0 rfl) ?_
        refine r_getr (t := 31) C hp xk_0 xs_0 xc_8 xin_8 (j := 3) (by decide) rfl gw_434 rfl dX8_ofScene_92 ?_
        obtain ⟨M13, hr, h⟩ := bd_of h
        refine r_callVV (As := []) (rest := []) C hl.1 hp (c_X3_lookAround l C.2.2.2.2.2.2.2.2.2.2.2 hr) gw_953 gw_829 gw_830 xk_31 xs_31 xc_3 cal_X3_lookAround rfl rfl (Nat.le_of_ble_eq_true rfl) ⟨Nat.le_of_ble_eq_true rfl, Nat.le_of_ble_eq_true rfl⟩ dX8_ofScene_95 (fun H locs hp => ?_)
        refine lv_aload_n C.1 C.2.1 dX8_ofScene_98 rfl (lv_at hl 0 rfl) ?_
        refine r_getr (t := 31) C hp xk_0 xs_0 xc_8 xin_8 (j := 3) (by decide) rfl gw_434 rfl dX8_ofScene_99 ?_
        refine lv_iload_n C.1 C.2.1 dX8_ofScene_102 rfl (lv_at hl 1 rfl) ?_
        refine lv_aload_n C.1 C.2.1 dX8_ofScene_103 rfl (lv_at hl 0 rfl) ?_
        refine r_getr (t := 1) C hp xk_0 xs_0 xc_8 xin_8 (j := 0) (by decide) rfl gw_431 rfl dX8_ofScene_104 ?_
        refine r_getr (t := 2) C hp xk_1 xs_1 xc_1 xin_1 (j := 0) (by decide) rfl gw_147 rfl dX8_ofScene_107 ?_
        refine r_bipush C dX8_ofScene_110 (by decide +kernel) ?_
        refine lv_iload_n C.1 C.2.1 dX8_ofScene_112 rfl (lv_at hl 1 rfl) ?_
        refine r_iadd C dX8_ofScene_113 ?_
        refine r_iald C hp h xk_2 xs_2 dX8_ofScene_114 (fun h => ?_)
        refine r_iconst C dX8_ofScene_115 ?_
        obtain ⟨x14, M15, hr, h⟩ := bW_of h
        refine r_callVI (As := [.int (gI a1), .int (gI (M13 2 (gs (28 + a1)).toNat)), .int (gI 0)]) (rest := []) C hl.1 hp (c_X3_cueSaid l C.2.2.2.2.2.2.2.2.2.2.2 hr) gw_960 gw_860 gw_861 xk_31 xs_31 xc_3 cal_X3_cueSaid rfl rfl (Nat.le_of_ble_eq_true rfl) ⟨Nat.le_of_ble_eq_true rfl, Nat.le_of_ble_eq_true rfl⟩ dX8_ofScene_116 (fun H locs hp => ?_)
        cases h
        exact hR _ _ _ _ dX8_ofScene_119 rfl hp
      have hd : W p l e R s m args below meth c H locs 0 0 Q (F0 m 120 ls []) := by
        refine r_iconst C dX8_ofScene_120 ?_
        cases h
        exact hR _ _ _ _ dX8_ofScene_121 rfl hp
      exact r_tswOut (tgt := 120) C dX8_ofScene_27 (by omega) (by decide) hd
    · refine lv_aload_n C.1 C.2.1 dX8_ofScene_16 rfl (lv_at hl 0 rfl) ?_
      refine r_getr (t := 1) C hp xk_0 xs_0 xc_8 xin_8 (j := 0) (by decide) rfl gw_431 rfl dX8_ofScene_17 ?_
      refine lv_iload_n C.1 C.2.1 dX8_ofScene_20 rfl (lv_at hl 1 rfl) ?_
      refine lv_iload_n C.1 C.2.1 dX8_ofScene_21 rfl (lv_at hl 2 rfl) ?_
      obtain ⟨x16, hr, h⟩ := bd_of h
      refine r_callVI (As := [.int (gI a1), .int (gI a2)]) (rest := []) C hl.1 hp (c_X1_after l C.2.2.2.2.2.2.2.2.2.2.2 hr) gw_959 gw_790 gw_791 xk_1 xs_1 xc_1 cal_X1_after rfl rfl (Nat.le_of_ble_eq_true rfl) ⟨Nat.le_of_ble_eq_true rfl, Nat.le_of_ble_eq_true rfl⟩ dX8_ofScene_22 (fun H locs hp => ?_)
      cases h
      exact hR _ _ _ _ dX8_ofScene_25 rfl hp
  · refine r_iconst C dX8_ofScene_7 ?_
    cases h
    exact hR _ _ _ _ dX8_ofScene_8 rfl hp
theorem c_X8_ofScene (l : Launch) {V : g_V} (hok : g_ok xG V) {a1 : Int} {a2 : Int} {M : g_M} {x : Int} {M2 : g_M} (h : m_X8_ofScene a1 a2 M = some (x, M2)) : MetI xG V l yX8_ofScene cX8_ofScene 3 (some .int) 4 85 [.ref (V.2.2 0), .int (gI a1), .int (gI a2)] M x M2 :=
  g_metI hok cal_X8_ofScene.2.2.2 rfl (Nat.le_of_ble_eq_true rfl) (@fun p e R s m args below meth c Q ls C hR hp hl => b_X8_ofScene C hR h hp hl)
set_option maxRecDepth 100000 in
set_option maxHeartbeats 4000000 in
theorem b_X8_is (C : g_CX xG V p R s m args meth c cX8_is 2 (some .int) RX8 3 65) {res : Int} {M : g_M} (hR : g_RetI xG V p l e R s m args below meth c Q cX8_is .int res M) {a1 : Int} {H : Heap} {locs : List Loc} {ls : Array Slot} (h : m_X8_is a1 M = some res) (hp : g_PT xG V M s H locs) (hl : lv_has ls 2 [(0, .ref (V.2.2 0)), (1, .int (gI a1))]) : W p l e R s m args below meth c H locs 0 0 Q (F0 m 0 ls []) := by
  unfold m_X8_is at h
  refine lv_iload_n C.1 C.2.1 dX8_is_0 rfl (lv_at hl 1 rfl) ?_
  refine r_ite h (fun hv h => ?_) (fun hv0 h => ?_)
  · refine r_tswIn (tgt := 32) (v := 0) C hv dX8_is_1 (by decide) rfl (by decide) ?_
    refine lv_aload_n C.1 C.2.1 dX8_is_32 rfl (lv_at hl 0 rfl) ?_
    refine r_getr (t := 1) C hp xk_0 xs_0 xc_8 xin_8 (j := 0) (by decide) rfl gw_431 rfl dX8_is_33 ?_
    refine r_getr (t := 2) C hp xk_1 xs_1 xc_1 xin_1 (j := 0) (by decide) rfl gw_147 rfl dX8_is_36 ?_
    refine r_bipush C dX8_is_39 (by decide +kernel) ?_
    refine r_iald C hp h xk_2 xs_2 dX8_is_41 (fun h => ?_)
    cases h
    exact hR _ _ _ _ dX8_is_42 rfl hp
  refine r_ite h (fun hv h => ?_) (fun hv1 h => ?_)
  · refine r_tswIn (tgt := 43) (v := 1) C hv dX8_is_1 (by decide) rfl (by decide) ?_
    refine lv_aload_n C.1 C.2.1 dX8_is_43 rfl (lv_at hl 0 rfl) ?_
    refine r_getr (t := 1) C hp xk_0 xs_0 xc_8 xin_8 (j := 0) (by decide) rfl gw_431 rfl dX8_is_44 ?_
    refine r_getr (t := 2) C hp xk_1 xs_1 xc_1 xin_1 (j := 0) (by decide) rfl gw_147 rfl dX8_is_47 ?_
    refine r_bipush C dX8_is_50 (by decide +kernel) ?_
    refine r_iald C hp h xk_2 xs_2 dX8_is_52 (fun h => ?_)
    cases h
    exact hR _ _ _ _ dX8_is_53 rfl hp
  refine r_ite h (fun hv h => ?_) (fun hv2 h => ?_)
  · refine r_tswIn (tgt := 54) (v := 2) C hv dX8_is_1 (by decide) rfl (by decide) ?_
    refine lv_aload_n C.1 C.2.1 dX8_is_54 rfl (lv_at hl 0 rfl) ?_
    refine r_getr (t := 1) C hp xk_0 xs_0 xc_8 xin_8 (j := 0) (by decide) rfl gw_431 rfl dX8_is_55 ?_
    obtain ⟨x11, hr, h⟩ := bd_of h
    refine r_callVI (As := []) (rest := []) C hl.1 hp (c_X1_seenBits l C.2.2.2.2.2.2.2.2.2.2.2 hr) gw_965 gw_833 gw_834 xk_1 xs_1 xc_1 cal_X1_seenBits rfl rfl (Nat.le_of_ble_eq_true rfl) ⟨Nat.le_of_ble_eq_true rfl, Nat.le_of_ble_eq_true rfl⟩ dX8_is_58 (fun H locs hp => ?_)
    cases h
    exact hR _ _ _ _ dX8_is_61 rfl hp
  refine r_ite h (fun hv h => ?_) (fun hv3 h => ?_)
  · refine r_tswIn (tgt := 62) (v := 3) C hv dX8_is_1 (by decide) rfl (by decide) ?_
    refine lv_aload_n C.1 C.2.1 dX8_is_62 rfl (lv_at hl 0 rfl) ?_
    refine r_getr (t := 1) C hp xk_0 xs_0 xc_8 xin_8 (j := 0) (by decide) rfl gw_431 rfl dX8_is_63 ?_
    refine r_getr (t := 2) C hp xk_1 xs_1 xc_1 xin_1 (j := 0) (by decide) rfl gw_147 rfl dX8_is_66 ?_
    refine r_bipush C dX8_is_69 (by decide +kernel) ?_
    refine r_iald C hp h xk_2 xs_2 dX8_is_71 (fun h => ?_)
    cases h
    exact hR _ _ _ _ dX8_is_72 rfl hp
  have hd : W p l e R s m args below meth c H locs 0 0 Q (F0 m 73 ls []) := by
    refine r_bipush C dX8_is_73 (by decide +kernel) ?_
    cases h
    exact hR _ _ _ _ dX8_is_75 rfl hp
  exact r_tswOut (tgt := 73) C dX8_is_1 (by omega) (by decide) hd
theorem c_X8_is (l : Launch) {V : g_V} (hok : g_ok xG V) {a1 : Int} {M : g_M} {x : Int} (h : m_X8_is a1 M = some x) : MetI xG V l yX8_is cX8_is 2 (some .int) 3 65 [.ref (V.2.2 0), .int (gI a1)] M x M :=
  g_metI hok cal_X8_is.2.2.2 rfl (Nat.le_of_ble_eq_true rfl) (@fun p e R s m args below meth c Q ls C hR hp hl => b_X8_is C hR h hp hl)
set_option maxRecDepth 100000 in
set_option maxHeartbeats 4000000 in
theorem b_X8_book (C : g_CX xG V p R s m args meth c cX8_book 5 (some .int) RX8 2 33) {res : Int} {M : g_M} (hR : g_RetI xG V p l e R s m args below meth c Q cX8_book .int res M) {a1 : Int} {a2 : Int} {H : Heap} {locs : List Loc} {ls : Array Slot} (h : m_X8_book a1 a2 M = some res) (hp : g_PT xG V M s H locs) (hl : lv_has ls 5 [(0, .ref (V.2.2 0)), (1, .int (gI a1)), (2, .int (gI a2))]) : W p l e R s m args below meth c H locs 0 0 Q (F0 m 0 ls []) := by
  unfold m_X8_book at h
  refine lv_aload_n C.1 C.2.1 dX8_book_0 rfl (lv_at hl 0 rfl) ?_
  refine r_getr (t := 1) C hp xk_0 xs_0 xc_8 xin_8 (j := 0) (by decide) rfl gw_431 rfl dX8_book_1 ?_
  obtain ⟨x11, hr, h⟩ := bd_of h
  refine r_callVI (As := []) (rest := []) C hl.1 hp (c_X1_written l C.2.2.2.2.2.2.2.2.2.2.2 hr) gw_970 gw_971 gw_972 xk_1 xs_1 xc_1 cal_X1_written rfl rfl (Nat.le_of_ble_eq_true rfl) ⟨Nat.le_of_ble_eq_true rfl, Nat.le_of_ble_eq_true rfl⟩ dX8_book_4 (fun H locs hp => ?_)
  refine r_istore_n (lv' := fun x12 => [(3, .int (gI x12)), (0, .ref (V.2.2 0)), (1, .int (gI a1)), (2, .int (gI a2))]) C h dX8_book_7 rfl hl (by decide) (fun _ => rfl) (fun x12 ls h hl => ?_)
  refine lv_iload_n C.1 C.2.1 dX8_book_8 rfl (lv_at hl 2 rfl) ?_
  refine r_iconst C dX8_book_9 ?_
  refine r_icmp_ne (tgt := 15) C h dX8_book_10 (by decide) (fun h => ?_) (fun h => ?_)
  · refine lv_iload_n C.1 C.2.1 dX8_book_15 rfl (lv_at hl 2 rfl) ?_
    refine r_iconst C dX8_book_16 ?_
    refine lv_iload_n C.1 C.2.1 dX8_book_17 rfl (lv_at hl 0 rfl) ?_
    refine r_iconst C dX8_book_18 ?_
    refine r_isub C dX8_book_19 ?_
    obtain ⟨x13, hr, h⟩ := bd_of h
    refine r_callSI (As := [.int (gI a1), .int (gI 0), .int (gI (x12 - 1))]) (rest := []) C hl.1 hp (c_X8_within l C.2.2.2.2.2.2.2.2.2.2.2 hr) gw_463 gw_464 cal_X8_within rfl rfl (Nat.le_of_ble_eq_true rfl) ⟨Nat.le_of_ble_eq_true rfl, Nat.le_of_ble_eq_true rfl⟩ dX8_book_20 (fun H locs hp => ?_)
    refine r_if_ne (tgt := 29) C h dX8_book_23 (by decide) (fun h => ?_) (fun h => ?_)
    · refine lv_aload_n C.1 C.2.1 dX8_book_29 rfl (lv_at hl 1 rfl) ?_
      refine r_getr (t := 1) C hp xk_0 xs_0 xc_8 xin_8 (j := 0) (by decide) rfl gw_431 rfl dX8_book_30 ?_
      refine r_getr (t := 2) C hp xk_1 xs_1 xc_1 xin_1 (j := 0) (by decide) rfl gw_147 rfl dX8_book_33 ?_
      refine r_bipush C dX8_book_36 (by decide +kernel) ?_
      refine r_iald C hp h xk_2 xs_2 dX8_book_38 (fun h => ?_)
      refine lv_iload_n C.1 C.2.1 dX8_book_39 rfl (lv_at hl 0 rfl) ?_
      refine r_isub C dX8_book_40 ?_
      refine lv_iload_n C.1 C.2.1 dX8_book_41 rfl (lv_at hl 2 rfl) ?_
      refine r_iadd C dX8_book_42 ?_
      refine r_istore (lv' := fun x14 => [(4, .int (gI x14)), (3, .int (gI x12)), (0, .ref (V.2.2 0)), (1, .int (gI a1)), (2, .int (gI a2))]) C h dX8_book_43 hl (by decide) (fun _ => rfl) (fun x14 ls h hl => ?_)
      refine lv_iload_n C.1 C.2.1 dX8_book_45 rfl (lv_at hl 4 rfl) ?_
      refine r_ite h (fun hv h => ?_) (fun hv0 h => ?_)
      · refine r_tswIn (tgt := 76) (v := 0) C hv dX8_book_46 (by decide) rfl (by decide) ?_
        refine lv_iload C.1 C.2.1 dX8_book_76 (lv_at hl 0 rfl) ?_
        cases h
        exact hR _ _ _ _ dX8_book_78 rfl hp
      refine r_ite h (fun hv h => ?_) (fun hv1 h => ?_)
      · refine r_tswIn (tgt := 79) (v := 1) C hv dX8_book_46 (by decide) rfl (by decide) ?_
        refine lv_aload_n C.1 C.2.1 dX8_book_79 rfl (lv_at hl 2 rfl) ?_
        refine r_getr (t := 1) C hp xk_0 xs_0 xc_8 xin_8 (j := 0) (by decide) rfl gw_431 rfl dX8_book_80 ?_
        refine r_getr (t := 2) C hp xk_1 xs_1 xc_1 xin_1 (j := 0) (by decide) rfl gw_147 rfl dX8_book_83 ?_
        refine r_bipush C dX8_book_86 (by decide +kernel) ?_
        refine lv_iload C.1 C.2.1 dX8_book_88 (lv_at hl 0 rfl) ?_
        refine r_bipush C dX8_book_90 (by decide +kernel) ?_
        refine r_irem C h dX8_book_92 (fun h => ?_)
        refine r_iadd C dX8_book_93 ?_
        refine r_iald C hp h xk_2 xs_2 dX8_book_94 (fun h => ?_)
        cases h
        exact hR _ _ _ _ dX8_book_95 rfl hp
      refine r_ite h (fun hv h => ?_) (fun hv2 h => ?_)
      · refine r_tswIn (tgt := 96) (v := 2) C hv dX8_book_46 (by decide) rfl (by decide) ?_
        refine lv_aload_n C.1 C.2.1 dX8_book_96 rfl (lv_at hl 2 rfl) ?_
        refine r_getr (t := 1) C hp xk_0 xs_0 xc_8 xin_8 (j := 0) (by decide) rfl gw_431 rfl dX8_book_97 ?_
        refine r_getr (t := 2) C hp xk_1 xs_1 xc_1 xin_1 (j := 0) (by decide) rfl gw_147 rfl dX8_book_100 ?_
        refine r_bipush C dX8_book_103 (by decide +kernel) ?_
        refine lv_iload C.1 C.2.1 dX8_book_105 (lv_at hl 0 rfl) ?_
        refine r_bipush C dX8_book_107 (by decide +kernel) ?_
        refine r_irem C h dX8_book_109 (fun h => ?_)
        refine r_iadd C dX8_book_110 ?_
        refine r_iald C hp h xk_2 xs_2 dX8_book_111 (fun h => ?_)
        cases h
        exact hR _ _ _ _ dX8_book_112 rfl hp
      refine r_ite h (fun hv h => ?_) (fun hv3 h => ?_)
      · refine r_tswIn (tgt := 113) (v := 3) C hv dX8_book_46 (by decide) rfl (by decide) ?_
        refine lv_aload_n C.1 C.2.1 dX8_book_113 rfl (lv_at hl 2 rfl) ?_
        refine r_getr (t := 1) C hp xk_0 xs_0 xc_8 xin_8 (j := 0) (by decide) rfl gw_431 rfl dX8_book_114 ?_
        refine r_getr (t := 2) C hp xk_1 xs_1 xc_1 xin_1 (j := 0) (by decide) rfl gw_147 rfl dX8_book_117 ?_
        refine r_bipush C dX8_book_120 (by decide +kernel) ?_
        refine lv_iload C.1 C.2.1 dX8_book_122 (lv_at hl 0 rfl) ?_
        refine r_bipush C dX8_book_124 (by decide +kernel) ?_
        refine r_irem C h dX8_book_126 (fun h => ?_)
        refine r_iadd C dX8_book_127 ?_
        refine r_iald C hp h xk_2 xs_2 dX8_book_128 (fun h => ?_)
        cases h
        exact hR _ _ _ _ dX8_book_129 rfl hp
      have hd : W p l e R s m args below meth c H locs 0 0 Q (F0 m 130 ls []) := by
        refine r_bipush C dX8_book_130 (by decide +kernel) ?_
        cases h
        exact hR _ _ _ _ dX8_book_132 rfl hp
      exact r_tswOut (tgt := 130) C dX8_book_46 (by omega) (by decide) hd
    · refine r_bipush C dX8_book_26 (by decide +kernel) ?_
      cases h
      exact hR _ _ _ _ dX8_book_28 rfl hp
  · refine lv_iload_n C.1 C.2.1 dX8_book_13 rfl (lv_at hl 0 rfl) ?_
    cases h
    exact hR _ _ _ _ dX8_book_14 rfl hp
theorem c_X8_book (l : Launch) {V : g_V} (hok : g_ok xG V) {a1 : Int} {a2 : Int} {M : g_M} {x : Int} (h : m_X8_book a1 a2 M = some x) : MetI xG V l yX8_book cX8_book 5 (some .int) 2 33 [.ref (V.2.2 0), .int (gI a1), .int (gI a2)] M x M :=
  g_metI hok cal_X8_book.2.2.2 rfl (Nat.le_of_ble_eq_true rfl) (@fun p e R s m args below meth c Q ls C hR hp hl => b_X8_book C hR h hp hl)
set_option maxRecDepth 100000 in
set_option maxHeartbeats 4000000 in
theorem b_X8_foretold (C : g_CX xG V p R s m args meth c cX8_foretold 3 (some .int) RX8 6 152) {res : Int × g_M} (hR : g_RetI xG V p l e R s m args below meth c Q cX8_foretold .int res.1 res.2) {a1 : Int} {a2 : Int} {M : g_M} {H : Heap} {locs : List Loc} {ls : Array Slot} (h : m_X8_foretold a1 a2 M = some res) (hp : g_PT xG V M s H locs) (hl : lv_has ls 3 [(0, .ref (V.2.2 0)), (1, .int (gI a1)), (2, .int (gI a2))]) : W p l e R s m args below meth c H locs 0 0 Q (F0 m 0 ls []) := by
  unfold m_X8_foretold at h
  refine lv_iload_n C.1 C.2.1 dX8_foretold_0 rfl (lv_at hl 1 rfl) ?_
  refine r_iconst C dX8_foretold_1 ?_
  refine r_bipush C dX8_foretold_2 (by decide +kernel) ?_
  obtain ⟨x11, hr, h⟩ := bd_of h
  refine r_callSI (As := [.int (gI a1), .int (gI 1), .int (gI 40)]) (rest := []) C hl.1 hp (c_X8_within l C.2.2.2.2.2.2.2.2.2.2.2 hr) gw_463 gw_464 cal_X8_within rfl rfl (Nat.le_of_ble_eq_true rfl) ⟨Nat.le_of_ble_eq_true rfl, Nat.le_of_ble_eq_true rfl⟩ dX8_foretold_4 (fun H locs hp => ?_)
  refine r_if_eq (tgt := 19) C h dX8_foretold_7 (by decide) (fun h => ?_) (fun h => ?_)
  · refine r_iconst C dX8_foretold_19 ?_
    cases h
    exact hR _ _ _ _ dX8_foretold_20 rfl hp
  · refine lv_iload_n C.1 C.2.1 dX8_foretold_10 rfl (lv_at hl 2 rfl) ?_
    refine r_iconst C dX8_foretold_11 ?_
    refine r_iconst C dX8_foretold_12 ?_
    obtain ⟨x12, hr, h⟩ := bd_of h
    refine r_callSI (As := [.int (gI a2), .int (gI 0), .int (gI 2)]) (rest := []) C hl.1 hp (c_X8_within l C.2.2.2.2.2.2.2.2.2.2.2 hr) gw_463 gw_464 cal_X8_within rfl rfl (Nat.le_of_ble_eq_true rfl) ⟨Nat.le_of_ble_eq_true rfl, Nat.le_of_ble_eq_true rfl⟩ dX8_foretold_13 (fun H locs hp => ?_)
    refine r_if_ne (tgt := 21) C h dX8_foretold_16 (by decide) (fun h => ?_) (fun h => ?_)
    · refine lv_aload_n C.1 C.2.1 dX8_foretold_21 rfl (lv_at hl 0 rfl) ?_
      refine r_getr (t := 65) C hp xk_0 xs_0 xc_8 xin_8 (j := 4) (by decide) rfl gw_435 rfl dX8_foretold_22 ?_
      refine lv_iload_n C.1 C.2.1 dX8_foretold_25 rfl (lv_at hl 1 rfl) ?_
      refine lv_iload_n C.1 C.2.1 dX8_foretold_26 rfl (lv_at hl 2 rfl) ?_
      obtain ⟨x13, M14, hr, h⟩ := bW_of h
      refine r_callVI (As := [.int (gI a1), .int (gI a2)]) (rest := []) C hl.1 hp (c_X2_foretell l C.2.2.2.2.2.2.2.2.2.2.2 hr) gw_979 gw_980 gw_981 xk_65 xs_65 xc_2 cal_X2_foretell rfl rfl (Nat.le_of_ble_eq_true rfl) ⟨Nat.le_of_ble_eq_true rfl, Nat.le_of_ble_eq_true rfl⟩ dX8_foretold_27 (fun H locs hp => ?_)
      cases h
      exact hR _ _ _ _ dX8_foretold_30 rfl hp
    · refine r_iconst C dX8_foretold_19 ?_
      cases h
      exact hR _ _ _ _ dX8_foretold_20 rfl hp
theorem c_X8_foretold (l : Launch) {V : g_V} (hok : g_ok xG V) {a1 : Int} {a2 : Int} {M : g_M} {x : Int} {M2 : g_M} (h : m_X8_foretold a1 a2 M = some (x, M2)) : MetI xG V l yX8_foretold cX8_foretold 3 (some .int) 6 152 [.ref (V.2.2 0), .int (gI a1), .int (gI a2)] M x M2 :=
  g_metI hok cal_X8_foretold.2.2.2 rfl (Nat.le_of_ble_eq_true rfl) (@fun p e R s m args below meth c Q ls C hR hp hl => b_X8_foretold C hR h hp hl)
set_option maxRecDepth 100000 in
set_option maxHeartbeats 4000000 in
theorem b_X8_cue (C : g_CX xG V p R s m args meth c cX8_cue 2 (some .int) RX8 2 42) {res : Int × g_M} (hR : g_RetI xG V p l e R s m args below meth c Q cX8_cue .int res.1 res.2) {a1 : Int} {M : g_M} {H : Heap} {locs : List Loc} {ls : Array Slot} (h : m_X8_cue a1 M = some res) (hp : g_PT xG V M s H locs) (hl : lv_has ls 2 [(0, .ref (V.2.2 0)), (1, .int (gI a1))]) : W p l e R s m args below meth c H locs 0 0 Q (F0 m 0 ls []) := by
  unfold m_X8_cue at h
  refine lv_iload_n C.1 C.2.1 dX8_cue_0 rfl (lv_at hl 1 rfl) ?_
  refine r_iconst C dX8_cue_1 ?_
  refine r_icmp_ne (tgt := 15) C h dX8_cue_2 (by decide) (fun h => ?_) (fun h => ?_)
  · refine lv_iload_n C.1 C.2.1 dX8_cue_15 rfl (lv_at hl 1 rfl) ?_
    obtain ⟨x11, hr, h⟩ := bd_of h
    refine r_callSI (As := [.int (gI a1)]) (rest := []) C hl.1 hp (c_X8_isCue l C.2.2.2.2.2.2.2.2.2.2.2 hr) gw_466 gw_467 cal_X8_isCue rfl rfl (Nat.le_of_ble_eq_true rfl) ⟨Nat.le_of_ble_eq_true rfl, Nat.le_of_ble_eq_true rfl⟩ dX8_cue_16 (fun H locs hp => ?_)
    refine r_if_eq (tgt := 34) C h dX8_cue_19 (by decide) (fun h => ?_) (fun h => ?_)
    · refine r_bipush C dX8_cue_34 (by decide +kernel) ?_
      cases h
      exact hR _ _ _ _ dX8_cue_36 rfl hp
    · refine lv_aload_n C.1 C.2.1 dX8_cue_22 rfl (lv_at hl 0 rfl) ?_
      refine r_getr (t := 1) C hp xk_0 xs_0 xc_8 xin_8 (j := 0) (by decide) rfl gw_431 rfl dX8_cue_23 ?_
      refine r_geti (t := 0) C hp xk_1 xs_1 xc_1 xin_1 (j := 11) (by decide) rfl gw_177 rfl dX8_cue_26 ?_
      refine r_bipush C dX8_cue_29 (by decide +kernel) ?_
      refine r_icmp_lt (tgt := 37) C h dX8_cue_31 (by decide) (fun h => ?_) (fun h => ?_)
      · refine lv_aload_n C.1 C.2.1 dX8_cue_37 rfl (lv_at hl 0 rfl) ?_
        refine r_getr (t := 1) C hp xk_0 xs_0 xc_8 xin_8 (j := 0) (by decide) rfl gw_431 rfl dX8_cue_38 ?_
        refine r_getr (t := 7) C hp xk_1 xs_1 xc_1 xin_1 (j := 10) (by decide) rfl gw_175 rfl dX8_cue_41 ?_
        refine lv_aload_n C.1 C.2.1 dX8_cue_44 rfl (lv_at hl 0 rfl) ?_
        refine r_getr (t := 1) C hp xk_0 xs_0 xc_8 xin_8 (j := 0) (by decide) rfl gw_431 rfl dX8_cue_45 ?_
        refine r_geti (t := 0) C hp xk_1 xs_1 xc_1 xin_1 (j := 11) (by decide) rfl gw_177 rfl dX8_cue_48 ?_
        refine lv_iload_n C.1 C.2.1 dX8_cue_51 rfl (lv_at hl 1 rfl) ?_
        refine r_iast C hp h xk_7 xs_7 dX8_cue_52 (fun M12 H locs h hp => ?_)
        refine lv_aload_n C.1 C.2.1 dX8_cue_53 rfl (lv_at hl 0 rfl) ?_
        refine r_getr (t := 1) C hp xk_0 xs_0 xc_8 xin_8 (j := 0) (by decide) rfl gw_431 rfl dX8_cue_54 ?_
        refine lv_dup C.1 C.2.1 dX8_cue_57 rfl ?_
        refine r_geti (t := 0) C hp xk_1 xs_1 xc_1 xin_1 (j := 11) (by decide) rfl gw_177 rfl dX8_cue_58 ?_
        refine r_iconst C dX8_cue_61 ?_
        refine r_iadd C dX8_cue_62 ?_
        refine r_puti C hp h xk_1 xs_1 xc_1 xin_1 tyX1 tyX1_ok nmX1 (j := 11) (by decide) rfl gw_177 rfl rfl rfl dX8_cue_63 (fun M13 H locs h hp => ?_)
        refine lv_aload_n C.1 C.2.1 dX8_cue_66 rfl (lv_at hl 0 rfl) ?_
        refine r_getr (t := 1) C hp xk_0 xs_0 xc_8 xin_8 (j := 0) (by decide) rfl gw_431 rfl dX8_cue_67 ?_
        refine r_geti (t := 0) C hp xk_1 xs_1 xc_1 xin_1 (j := 11) (by decide) rfl gw_177 rfl dX8_cue_70 ?_
        cases h
        exact hR _ _ _ _ dX8_cue_73 rfl hp
      · refine r_bipush C dX8_cue_34 (by decide +kernel) ?_
        cases h
        exact hR _ _ _ _ dX8_cue_36 rfl hp
  · refine lv_aload_n C.1 C.2.1 dX8_cue_5 rfl (lv_at hl 0 rfl) ?_
    refine r_getr (t := 1) C hp xk_0 xs_0 xc_8 xin_8 (j := 0) (by decide) rfl gw_431 rfl dX8_cue_6 ?_
    refine r_iconst C dX8_cue_9 ?_
    refine r_puti C hp h xk_1 xs_1 xc_1 xin_1 tyX1 tyX1_ok nmX1 (j := 11) (by decide) rfl gw_177 rfl rfl rfl dX8_cue_10 (fun M14 H locs h hp => ?_)
    refine r_iconst C dX8_cue_13 ?_
    cases h
    exact hR _ _ _ _ dX8_cue_14 rfl hp
theorem c_X8_cue (l : Launch) {V : g_V} (hok : g_ok xG V) {a1 : Int} {M : g_M} {x : Int} {M2 : g_M} (h : m_X8_cue a1 M = some (x, M2)) : MetI xG V l yX8_cue cX8_cue 2 (some .int) 2 42 [.ref (V.2.2 0), .int (gI a1)] M x M2 :=
  g_metI hok cal_X8_cue.2.2.2 rfl (Nat.le_of_ble_eq_true rfl) (@fun p e R s m args below meth c Q ls C hR hp hl => b_X8_cue C hR h hp hl)
set_option maxRecDepth 100000 in
set_option maxHeartbeats 4000000 in
theorem w_X8_run_L29 (C : g_CX xG V p R s m args meth c cX8_run 5 (some .int) RX8 3 64) {res : Int} {M18 : g_M} (hR : g_RetI xG V p l e R s m args below meth c Q cX8_run .int res M18) (x15 : Int)   : ∀ (f : Nat) (x16 : Int) (x17 : Int) (H : Heap) (locs : List Loc) (ls : Array Slot), m_X8_run_L29 x15 M18  f x16 x17 = some res → g_PT xG V M18 s H locs → lv_has ls 5 [(0, .ref (V.2.2 0)), (2, .int (gI x15)), (3, .int (gI x16)), (4, .int (gI x17))] → W p l e R s m args below meth c H locs 0 0 Q (F0 m 29 ls []) := by
  intro f
  induction f with
  | zero => intro x16 x17 H locs ls h hp hl; cases h
  | succ f ih =>
    intro x16 x17 H locs ls h hp hl
    rw [m_X8_run_L29] at h
    refine lv_iload C.1 C.2.1 dX8_run_29 (lv_at hl 3 rfl) ?_
    refine lv_iload_n C.1 C.2.1 dX8_run_31 rfl (lv_at hl 1 rfl) ?_
    refine r_icmp_ge (tgt := 60) C h dX8_run_32 (by decide) (fun h => ?_) (fun h => ?_)
    · refine lv_iload_n C.1 C.2.1 dX8_run_60 rfl (lv_at hl 2 rfl) ?_
      cases h
      exact hR _ _ _ _ dX8_run_61 rfl hp
    · refine lv_aload_n C.1 C.2.1 dX8_run_35 rfl (lv_at hl 0 rfl) ?_
      refine r_getr (t := 1) C hp xk_0 xs_0 xc_8 xin_8 (j := 0) (by decide) rfl gw_431 rfl dX8_run_36 ?_
      refine lv_iload_n C.1 C.2.1 dX8_run_39 rfl (lv_at hl 2 rfl) ?_
      refine lv_aload_n C.1 C.2.1 dX8_run_40 rfl (lv_at hl 0 rfl) ?_
      refine r_getr (t := 1) C hp xk_0 xs_0 xc_8 xin_8 (j := 0) (by decide) rfl gw_431 rfl dX8_run_41 ?_
      refine r_getr (t := 7) C hp xk_1 xs_1 xc_1 xin_1 (j := 10) (by decide) rfl gw_175 rfl dX8_run_44 ?_
      refine lv_iload C.1 C.2.1 dX8_run_47 (lv_at hl 3 rfl) ?_
      refine r_iald C hp h xk_7 xs_7 dX8_run_49 (fun h => ?_)
      obtain ⟨x19, hr, h⟩ := bd_of h
      refine r_callVI (As := [.int (gI x16), .int (gI (M18 7 (gs x17).toNat))]) (rest := []) C hl.1 hp (c_X1_after l C.2.2.2.2.2.2.2.2.2.2.2 hr) gw_959 gw_790 gw_791 xk_1 xs_1 xc_1 cal_X1_after rfl rfl (Nat.le_of_ble_eq_true rfl) ⟨Nat.le_of_ble_eq_true rfl, Nat.le_of_ble_eq_true rfl⟩ dX8_run_50 (fun H locs hp => ?_)
      refine r_istore_n (lv' := fun x20 => [(3, .int (gI x20)), (0, .ref (V.2.2 0)), (2, .int (gI x15)), (4, .int (gI x17))]) C h dX8_run_53 rfl hl (by decide) (fun _ => rfl) (fun x20 ls h hl => ?_)
      refine r_iinc (lv' := fun x21 => [(4, .int (gI x21)), (3, .int (gI x20)), (0, .ref (V.2.2 0)), (2, .int (gI x15))]) C h dX8_run_54 hl (j := 3) rfl (by decide) (fun _ => rfl) (fun x21 ls h hl => ?_)
      refine r_goto (tgt := 29) C dX8_run_57 (by decide) ?_
      exact ih _ _ _ _ _ h hp (lv_sub hl [2, 3, 1, 0] rfl)
set_option maxRecDepth 100000 in
set_option maxHeartbeats 4000000 in
theorem b_X8_run (C : g_CX xG V p R s m args meth c cX8_run 5 (some .int) RX8 3 64) {res : Int} {M : g_M} (hR : g_RetI xG V p l e R s m args below meth c Q cX8_run .int res M) {a1 : Int} {a2 : Int} {H : Heap} {locs : List Loc} {ls : Array Slot} (h : m_X8_run a1 a2 M = some res) (hp : g_PT xG V M s H locs) (hl : lv_has ls 5 [(0, .ref (V.2.2 0)), (1, .int (gI a1)), (2, .int (gI a2))]) : W p l e R s m args below meth c H locs 0 0 Q (F0 m 0 ls []) := by
  unfold m_X8_run at h
  refine lv_iload_n C.1 C.2.1 dX8_run_0 rfl (lv_at hl 1 rfl) ?_
  obtain ⟨x11, hr, h⟩ := bd_of h
  refine r_callSI (As := [.int (gI a1)]) (rest := []) C hl.1 hp (c_X8_isPlace l C.2.2.2.2.2.2.2.2.2.2.2 hr) gw_469 gw_470 cal_X8_isPlace rfl rfl (Nat.le_of_ble_eq_true rfl) ⟨Nat.le_of_ble_eq_true rfl, Nat.le_of_ble_eq_true rfl⟩ dX8_run_1 (fun H locs hp => ?_)
  refine r_if_eq (tgt := 22) C h dX8_run_4 (by decide) (fun h => ?_) (fun h => ?_)
  · refine r_iconst C dX8_run_22 ?_
    cases h
    exact hR _ _ _ _ dX8_run_23 rfl hp
  · refine lv_iload_n C.1 C.2.1 dX8_run_7 rfl (lv_at hl 2 rfl) ?_
    refine r_iconst C dX8_run_8 ?_
    refine lv_aload_n C.1 C.2.1 dX8_run_9 rfl (lv_at hl 0 rfl) ?_
    refine r_getr (t := 1) C hp xk_0 xs_0 xc_8 xin_8 (j := 0) (by decide) rfl gw_431 rfl dX8_run_10 ?_
    refine r_geti (t := 0) C hp xk_1 xs_1 xc_1 xin_1 (j := 11) (by decide) rfl gw_177 rfl dX8_run_13 ?_
    obtain ⟨x12, hr, h⟩ := bd_of h
    refine r_callSI (As := [.int (gI a2), .int (gI 0), .int (gI (M 1 11))]) (rest := []) C hl.1 hp (c_X8_within l C.2.2.2.2.2.2.2.2.2.2.2 hr) gw_463 gw_464 cal_X8_within rfl rfl (Nat.le_of_ble_eq_true rfl) ⟨Nat.le_of_ble_eq_true rfl, Nat.le_of_ble_eq_true rfl⟩ dX8_run_16 (fun H locs hp => ?_)
    refine r_if_ne (tgt := 24) C h dX8_run_19 (by decide) (fun h => ?_) (fun h => ?_)
    · refine lv_iload_n C.1 C.2.1 dX8_run_24 rfl (lv_at hl 1 rfl) ?_
      refine r_istore_n (lv' := fun x13 => [(3, .int (gI x13)), (0, .ref (V.2.2 0)), (1, .int (gI a1)), (2, .int (gI a2))]) C h dX8_run_25 rfl hl (by decide) (fun _ => rfl) (fun x13 ls h hl => ?_)
      refine r_iconst C dX8_run_26 ?_
      refine r_istore (lv' := fun x14 => [(4, .int (gI x14)), (3, .int (gI x13)), (0, .ref (V.2.2 0)), (1, .int (gI a1)), (2, .int (gI a2))]) C h dX8_run_27 hl (by decide) (fun _ => rfl) (fun x14 ls h hl => ?_)
      refine w_X8_run_L29 C hR _ _ _ _ H locs ls h hp (lv_sub hl [2, 4, 1, 0] rfl)
    · refine r_iconst C dX8_run_22 ?_
      cases h
      exact hR _ _ _ _ dX8_run_23 rfl hp
theorem c_X8_run (l : Launch) {V : g_V} (hok : g_ok xG V) {a1 : Int} {a2 : Int} {M : g_M} {x : Int} (h : m_X8_run a1 a2 M = some x) : MetI xG V l yX8_run cX8_run 5 (some .int) 3 64 [.ref (V.2.2 0), .int (gI a1), .int (gI a2)] M x M :=
  g_metI hok cal_X8_run.2.2.2 rfl (Nat.le_of_ble_eq_true rfl) (@fun p e R s m args below meth c Q ls C hR hp hl => b_X8_run C hR h hp hl)
set_option maxRecDepth 100000 in
set_option maxHeartbeats 4000000 in
theorem b_X8_shortest (C : g_CX xG V p R s m args meth c cX8_shortest 4 (some .int) RX8 6 137) {res : Int × g_M} (hR : g_RetI xG V p l e R s m args below meth c Q cX8_shortest .int res.1 res.2) {a1 : Int} {a2 : Int} {a3 : Int} {M : g_M} {H : Heap} {locs : List Loc} {ls : Array Slot} (h : m_X8_shortest a1 a2 a3 M = some res) (hp : g_PT xG V M s H locs) (hl : lv_has ls 4 [(0, .ref (V.2.2 0)), (1, .int (gI a1)), (2, .int (gI a2)), (3, .int (gI a3))]) : W p l e R s m args below meth c H locs 0 0 Q (F0 m 0 ls []) := by
  unfold m_X8_shortest at h
  refine r_jn (P := fun J => ∀  (H : Heap) (locs : List Loc) (ls : Array Slot), J  = some res → g_PT xG V M s H locs → lv_has ls 4 [] → W p l e R s m args below meth c H locs 0 0 Q (F0 m 27 ls [])) h ?_ (fun J11 hJ11 h => ?_)
  · intro  H locs ls h hp hl
    refine r_bipush C dX8_shortest_27 (by decide +kernel) ?_
    cases h
    exact hR _ _ _ _ dX8_shortest_29 rfl hp
  refine lv_iload_n C.1 C.2.1 dX8_shortest_0 rfl (lv_at hl 1 rfl) ?_
  obtain ⟨x12, hr, h⟩ := bd_of h
  refine r_callSI (As := [.int (gI a1)]) (rest := []) C hl.1 hp (c_X8_isPlace l C.2.2.2.2.2.2.2.2.2.2.2 hr) gw_469 gw_470 cal_X8_isPlace rfl rfl (Nat.le_of_ble_eq_true rfl) ⟨Nat.le_of_ble_eq_true rfl, Nat.le_of_ble_eq_true rfl⟩ dX8_shortest_1 (fun H locs hp => ?_)
  refine r_if_eq (tgt := 27) C h dX8_shortest_4 (by decide) (fun h => ?_) (fun h => ?_)
  · exact hJ11  _ _ _ h hp (lv_sub hl [] rfl)
  · refine lv_iload_n C.1 C.2.1 dX8_shortest_7 rfl (lv_at hl 2 rfl) ?_
    obtain ⟨x13, hr, h⟩ := bd_of h
    refine r_callSI (As := [.int (gI a2)]) (rest := []) C hl.1 hp (c_X8_isPlace l C.2.2.2.2.2.2.2.2.2.2.2 hr) gw_469 gw_470 cal_X8_isPlace rfl rfl (Nat.le_of_ble_eq_true rfl) ⟨Nat.le_of_ble_eq_true rfl, Nat.le_of_ble_eq_true rfl⟩ dX8_shortest_8 (fun H locs hp => ?_)
    refine r_if_eq (tgt := 27) C h dX8_shortest_11 (by decide) (fun h => ?_) (fun h => ?_)
    · exact hJ11  _ _ _ h hp (lv_sub hl [] rfl)
    · refine lv_aload_n C.1 C.2.1 dX8_shortest_14 rfl (lv_at hl 0 rfl) ?_
      refine r_getr (t := 67) C hp xk_0 xs_0 xc_8 xin_8 (j := 5) (by decide) rfl gw_436 rfl dX8_shortest_15 ?_
      refine lv_iload_n C.1 C.2.1 dX8_shortest_18 rfl (lv_at hl 1 rfl) ?_
      refine lv_iload_n C.1 C.2.1 dX8_shortest_19 rfl (lv_at hl 2 rfl) ?_
      refine lv_iload_n C.1 C.2.1 dX8_shortest_20 rfl (lv_at hl 3 rfl) ?_
      obtain ⟨x14, M15, hr, h⟩ := bW_of h
      refine r_callVI (As := [.int (gI a1), .int (gI a2), .int (gI a3)]) (rest := []) C hl.1 hp (c_X0_shortestWay l C.2.2.2.2.2.2.2.2.2.2.2 hr) gw_996 gw_997 gw_998 xk_67 xs_67 xc_0 cal_X0_shortestWay rfl rfl (Nat.le_of_ble_eq_true rfl) ⟨Nat.le_of_ble_eq_true rfl, Nat.le_of_ble_eq_true rfl⟩ dX8_shortest_21 (fun H locs hp => ?_)
      refine r_goto (tgt := 29) C dX8_shortest_24 (by decide) ?_
      cases h
      exact hR _ _ _ _ dX8_shortest_29 rfl hp
theorem c_X8_shortest (l : Launch) {V : g_V} (hok : g_ok xG V) {a1 : Int} {a2 : Int} {a3 : Int} {M : g_M} {x : Int} {M2 : g_M} (h : m_X8_shortest a1 a2 a3 M = some (x, M2)) : MetI xG V l yX8_shortest cX8_shortest 4 (some .int) 6 137 [.ref (V.2.2 0), .int (gI a1), .int (gI a2), .int (gI a3)] M x M2 :=
  g_metI hok cal_X8_shortest.2.2.2 rfl (Nat.le_of_ble_eq_true rfl) (@fun p e R s m args below meth c Q ls C hR hp hl => b_X8_shortest C hR h hp hl)
set_option maxRecDepth 100000 in
set_option maxHeartbeats 4000000 in
theorem b_X8_soonest (C : g_CX xG V p R s m args meth c cX8_soonest 3 (some .int) RX8 6 134) {res : Int × g_M} (hR : g_RetI xG V p l e R s m args below meth c Q cX8_soonest .int res.1 res.2) {a1 : Int} {a2 : Int} {M : g_M} {H : Heap} {locs : List Loc} {ls : Array Slot} (h : m_X8_soonest a1 a2 M = some res) (hp : g_PT xG V M s H locs) (hl : lv_has ls 3 [(0, .ref (V.2.2 0)), (1, .int (gI a1)), (2, .int (gI a2))]) : W p l e R s m args below meth c H locs 0 0 Q (F0 m 0 ls []) := by
  unfold m_X8_soonest at h
  refine lv_iload_n C.1 C.2.1 dX8_soonest_0 rfl (lv_at hl 1 rfl) ?_
  obtain ⟨x11, hr, h⟩ := bd_of h
  refine r_callSI (As := [.int (gI a1)]) (rest := []) C hl.1 hp (c_X8_isPlace l C.2.2.2.2.2.2.2.2.2.2.2 hr) gw_469 gw_470 cal_X8_isPlace rfl rfl (Nat.le_of_ble_eq_true rfl) ⟨Nat.le_of_ble_eq_true rfl, Nat.le_of_ble_eq_true rfl⟩ dX8_soonest_1 (fun H locs hp => ?_)
  refine r_if_eq (tgt := 19) C h dX8_soonest_4 (by decide) (fun h => ?_) (fun h => ?_)
  · refine r_bipush C dX8_soonest_19 (by decide +kernel) ?_
    cases h
    exact hR _ _ _ _ dX8_soonest_21 rfl hp
  · refine lv_aload_n C.1 C.2.1 dX8_soonest_7 rfl (lv_at hl 0 rfl) ?_
    refine r_getr (t := 67) C hp xk_0 xs_0 xc_8 xin_8 (j := 5) (by decide) rfl gw_436 rfl dX8_soonest_8 ?_
    refine lv_iload_n C.1 C.2.1 dX8_soonest_11 rfl (lv_at hl 1 rfl) ?_
    refine lv_iload_n C.1 C.2.1 dX8_soonest_12 rfl (lv_at hl 2 rfl) ?_
    obtain ⟨x12, M13, hr, h⟩ := bW_of h
    refine r_callVI (As := [.int (gI a1), .int (gI a2)]) (rest := []) C hl.1 hp (c_X0_playLength l C.2.2.2.2.2.2.2.2.2.2.2 hr) gw_1018 gw_1019 gw_1020 xk_67 xs_67 xc_0 cal_X0_playLength rfl rfl (Nat.le_of_ble_eq_true rfl) ⟨Nat.le_of_ble_eq_true rfl, Nat.le_of_ble_eq_true rfl⟩ dX8_soonest_13 (fun H locs hp => ?_)
    refine r_goto (tgt := 21) C dX8_soonest_16 (by decide) ?_
    cases h
    exact hR _ _ _ _ dX8_soonest_21 rfl hp
theorem c_X8_soonest (l : Launch) {V : g_V} (hok : g_ok xG V) {a1 : Int} {a2 : Int} {M : g_M} {x : Int} {M2 : g_M} (h : m_X8_soonest a1 a2 M = some (x, M2)) : MetI xG V l yX8_soonest cX8_soonest 3 (some .int) 6 134 [.ref (V.2.2 0), .int (gI a1), .int (gI a2)] M x M2 :=
  g_metI hok cal_X8_soonest.2.2.2 rfl (Nat.le_of_ble_eq_true rfl) (@fun p e R s m args below meth c Q ls C hR hp hl => b_X8_soonest C hR h hp hl)
set_option maxRecDepth 100000 in
set_option maxHeartbeats 4000000 in
theorem b_X8_best (C : g_CX xG V p R s m args meth c cX8_best 3 (some .int) RX8 6 133) {res : Int × g_M} (hR : g_RetI xG V p l e R s m args below meth c Q cX8_best .int res.1 res.2) {a1 : Int} {a2 : Int} {M : g_M} {H : Heap} {locs : List Loc} {ls : Array Slot} (h : m_X8_best a1 a2 M = some res) (hp : g_PT xG V M s H locs) (hl : lv_has ls 3 [(0, .ref (V.2.2 0)), (1, .int (gI a1)), (2, .int (gI a2))]) : W p l e R s m args below meth c H locs 0 0 Q (F0 m 0 ls []) := by
  unfold m_X8_best at h
  refine lv_iload_n C.1 C.2.1 dX8_best_0 rfl (lv_at hl 1 rfl) ?_
  obtain ⟨x11, hr, h⟩ := bd_of h
  refine r_callSI (As := [.int (gI a1)]) (rest := []) C hl.1 hp (c_X8_isPlace l C.2.2.2.2.2.2.2.2.2.2.2 hr) gw_469 gw_470 cal_X8_isPlace rfl rfl (Nat.le_of_ble_eq_true rfl) ⟨Nat.le_of_ble_eq_true rfl, Nat.le_of_ble_eq_true rfl⟩ dX8_best_1 (fun H locs hp => ?_)
  refine r_if_eq (tgt := 19) C h dX8_best_4 (by decide) (fun h => ?_) (fun h => ?_)
  · refine r_iconst C dX8_best_19 ?_
    cases h
    exact hR _ _ _ _ dX8_best_20 rfl hp
  · refine lv_aload_n C.1 C.2.1 dX8_best_7 rfl (lv_at hl 0 rfl) ?_
    refine r_getr (t := 67) C hp xk_0 xs_0 xc_8 xin_8 (j := 5) (by decide) rfl gw_436 rfl dX8_best_8 ?_
    refine lv_iload_n C.1 C.2.1 dX8_best_11 rfl (lv_at hl 1 rfl) ?_
    refine lv_iload_n C.1 C.2.1 dX8_best_12 rfl (lv_at hl 2 rfl) ?_
    obtain ⟨x12, M13, hr, h⟩ := bW_of h
    refine r_callVI (As := [.int (gI a1), .int (gI a2)]) (rest := []) C hl.1 hp (c_X0_playCue l C.2.2.2.2.2.2.2.2.2.2.2 hr) gw_1035 gw_1036 gw_1037 xk_67 xs_67 xc_0 cal_X0_playCue rfl rfl (Nat.le_of_ble_eq_true rfl) ⟨Nat.le_of_ble_eq_true rfl, Nat.le_of_ble_eq_true rfl⟩ dX8_best_13 (fun H locs hp => ?_)
    refine r_goto (tgt := 20) C dX8_best_16 (by decide) ?_
    cases h
    exact hR _ _ _ _ dX8_best_20 rfl hp
theorem c_X8_best (l : Launch) {V : g_V} (hok : g_ok xG V) {a1 : Int} {a2 : Int} {M : g_M} {x : Int} {M2 : g_M} (h : m_X8_best a1 a2 M = some (x, M2)) : MetI xG V l yX8_best cX8_best 3 (some .int) 6 133 [.ref (V.2.2 0), .int (gI a1), .int (gI a2)] M x M2 :=
  g_metI hok cal_X8_best.2.2.2 rfl (Nat.le_of_ble_eq_true rfl) (@fun p e R s m args below meth c Q ls C hR hp hl => b_X8_best C hR h hp hl)
set_option maxRecDepth 100000 in
set_option maxHeartbeats 4000000 in
theorem b_X8_odds (C : g_CX xG V p R s m args meth c cX8_odds 4 (some .long) RX8 6 137) {res : Int × g_M} (hR : g_RetL xG V p l e R s m args below meth c Q cX8_odds res.1 res.2) {a1 : Int} {a2 : Int} {a3 : Int} {M : g_M} {H : Heap} {locs : List Loc} {ls : Array Slot} (h : m_X8_odds a1 a2 a3 M = some res) (hp : g_PT xG V M s H locs) (hl : lv_has ls 4 [(0, .ref (V.2.2 0)), (1, .int (gI a1)), (2, .int (gI a2)), (3, .int (gI a3))]) : W p l e R s m args below meth c H locs 0 0 Q (F0 m 0 ls []) := by
  unfold m_X8_odds at h
  refine r_jn (P := fun J => ∀  (H : Heap) (locs : List Loc) (ls : Array Slot), J  = some res → g_PT xG V M s H locs → lv_has ls 4 [] → W p l e R s m args below meth c H locs 0 0 Q (F0 m 30 ls [])) h ?_ (fun J11 hJ11 h => ?_)
  · intro  H locs ls h hp hl
    refine r_ldc2 (n := (-1)) C gw_1057 (by decide +kernel) dX8_odds_30 ?_
    cases h
    exact hR _ _ _ _ dX8_odds_33 hp
  refine lv_iload_n C.1 C.2.1 dX8_odds_0 rfl (lv_at hl 1 rfl) ?_
  obtain ⟨x12, hr, h⟩ := bd_of h
  refine r_callSI (As := [.int (gI a1)]) (rest := []) C hl.1 hp (c_X8_isPlace l C.2.2.2.2.2.2.2.2.2.2.2 hr) gw_469 gw_470 cal_X8_isPlace rfl rfl (Nat.le_of_ble_eq_true rfl) ⟨Nat.le_of_ble_eq_true rfl, Nat.le_of_ble_eq_true rfl⟩ dX8_odds_1 (fun H locs hp => ?_)
  refine r_if_eq (tgt := 30) C h dX8_odds_4 (by decide) (fun h => ?_) (fun h => ?_)
  · exact hJ11  _ _ _ h hp (lv_sub hl [] rfl)
  · refine lv_iload_n C.1 C.2.1 dX8_odds_7 rfl (lv_at hl 2 rfl) ?_
    refine r_iconst C dX8_odds_8 ?_
    refine r_bipush C dX8_odds_9 (by decide +kernel) ?_
    obtain ⟨x13, hr, h⟩ := bd_of h
    refine r_callSI (As := [.int (gI a2), .int (gI 0), .int (gI 9)]) (rest := []) C hl.1 hp (c_X8_within l C.2.2.2.2.2.2.2.2.2.2.2 hr) gw_463 gw_464 cal_X8_within rfl rfl (Nat.le_of_ble_eq_true rfl) ⟨Nat.le_of_ble_eq_true rfl, Nat.le_of_ble_eq_true rfl⟩ dX8_odds_11 (fun H locs hp => ?_)
    refine r_if_eq (tgt := 30) C h dX8_odds_14 (by decide) (fun h => ?_) (fun h => ?_)
    · exact hJ11  _ _ _ h hp (lv_sub hl [] rfl)
    · refine lv_aload_n C.1 C.2.1 dX8_odds_17 rfl (lv_at hl 0 rfl) ?_
      refine r_getr (t := 67) C hp xk_0 xs_0 xc_8 xin_8 (j := 5) (by decide) rfl gw_436 rfl dX8_odds_18 ?_
      refine lv_iload_n C.1 C.2.1 dX8_odds_21 rfl (lv_at hl 1 rfl) ?_
      refine lv_iload_n C.1 C.2.1 dX8_odds_22 rfl (lv_at hl 2 rfl) ?_
      refine lv_iload_n C.1 C.2.1 dX8_odds_23 rfl (lv_at hl 3 rfl) ?_
      obtain ⟨x14, M15, hr, h⟩ := bW_of h
      refine r_callVL (As := [.int (gI a1), .int (gI a2), .int (gI a3)]) (rest := []) C hl.1 hp (c_X0_oddsWithin l C.2.2.2.2.2.2.2.2.2.2.2 hr) gw_1043 gw_1044 gw_1045 xk_67 xs_67 xc_0 cal_X0_oddsWithin rfl rfl (Nat.le_of_ble_eq_true rfl) ⟨Nat.le_of_ble_eq_true rfl, Nat.le_of_ble_eq_true rfl⟩ dX8_odds_24 (fun H locs hp => ?_)
      refine r_goto (tgt := 33) C dX8_odds_27 (by decide) ?_
      cases h
      exact hR _ _ _ _ dX8_odds_33 hp
theorem c_X8_odds (l : Launch) {V : g_V} (hok : g_ok xG V) {a1 : Int} {a2 : Int} {a3 : Int} {M : g_M} {x : Int} {M2 : g_M} (h : m_X8_odds a1 a2 a3 M = some (x, M2)) : MetL xG V l yX8_odds cX8_odds 4 (some .long) 6 137 [.ref (V.2.2 0), .int (gI a1), .int (gI a2), .int (gI a3)] M x M2 :=
  g_metL hok cal_X8_odds.2.2.2 rfl (Nat.le_of_ble_eq_true rfl) (@fun p e R s m args below meth c Q ls C hR hp hl => b_X8_odds C hR h hp hl)
set_option maxRecDepth 100000 in
set_option maxHeartbeats 4000000 in
theorem b_X8_weigh (C : g_CX xG V p R s m args meth c cX8_weigh 6 (some .boolean) RX8 1 22) {res : Int × g_M} (hR : g_RetI xG V p l e R s m args below meth c Q cX8_weigh .boolean res.1 res.2) {a1 : Int} {a2 : Int} {a3 : Int} {a4 : Int} {M : g_M} {H : Heap} {locs : List Loc} {ls : Array Slot} (h : m_X8_weigh a1 a2 a3 a4 M = some res) (hp : g_PT xG V M s H locs) (hl : lv_has ls 6 [(0, .ref (V.2.2 0)), (1, .int (gI a1)), (2, .int (gI a2)), (3, .int (gI a3)), (4, .int (gI a4))]) : W p l e R s m args below meth c H locs 0 0 Q (F0 m 0 ls []) := by
  unfold m_X8_weigh at h
  refine r_jn (P := fun J => ∀ (x17 : Int) (H : Heap) (locs : List Loc) (ls : Array Slot), J x17 = some res → g_PT xG V M s H locs → lv_has ls 6 [(0, .ref (V.2.2 0)), (1, .int (gI a1)), (2, .int (gI a2)), (3, .int (gI a3)), (4, .int (gI a4))] → W p l e R s m args below meth c H locs 0 0 Q (F0 m 46 ls [.int (gI x17)])) h ?_ (fun J12 hJ12 h => ?_)
  · intro x17 H locs ls h hp hl
    refine r_istore (lv' := fun x18 => [(5, .int (gI x18)), (0, .ref (V.2.2 0)), (1, .int (gI a1)), (2, .int (gI a2)), (3, .int (gI a3)), (4, .int (gI a4))]) C h dX8_weigh_46 hl (by decide) (fun _ => rfl) (fun x18 ls h hl => ?_)
    refine lv_iload C.1 C.2.1 dX8_weigh_48 (lv_at hl 0 rfl) ?_
    refine r_if_eq (tgt := 66) C h dX8_weigh_50 (by decide) (fun h => ?_) (fun h => ?_)
    · refine r_iconst C dX8_weigh_66 ?_
      cases h
      exact hR _ _ _ _ dX8_weigh_67 g_nz0 hp
    · refine lv_iload_n C.1 C.2.1 dX8_weigh_53 rfl (lv_at hl 2 rfl) ?_
      refine lv_iload_n C.1 C.2.1 dX8_weigh_54 rfl (lv_at hl 3 rfl) ?_
      refine r_iadd C dX8_weigh_55 ?_
      refine lv_iload_n C.1 C.2.1 dX8_weigh_56 rfl (lv_at hl 4 rfl) ?_
      refine r_iadd C dX8_weigh_57 ?_
      refine lv_iload C.1 C.2.1 dX8_weigh_58 (lv_at hl 5 rfl) ?_
      refine r_iadd C dX8_weigh_60 ?_
      refine r_bipush C dX8_weigh_61 (by decide +kernel) ?_
      refine r_icmp_eq (tgt := 68) C h dX8_weigh_63 (by decide) (fun h => ?_) (fun h => ?_)
      · refine lv_aload_n C.1 C.2.1 dX8_weigh_68 rfl (lv_at hl 1 rfl) ?_
        refine r_getr (t := 1) C hp xk_0 xs_0 xc_8 xin_8 (j := 0) (by decide) rfl gw_431 rfl dX8_weigh_69 ?_
        refine r_getr (t := 8) C hp xk_1 xs_1 xc_1 xin_1 (j := 12) (by decide) rfl gw_180 rfl dX8_weigh_72 ?_
        refine r_iconst C dX8_weigh_75 ?_
        refine lv_iload_n C.1 C.2.1 dX8_weigh_76 rfl (lv_at hl 2 rfl) ?_
        refine r_iast C hp h xk_8 xs_8 dX8_weigh_77 (fun M19 H locs h hp => ?_)
        refine lv_aload_n C.1 C.2.1 dX8_weigh_78 rfl (lv_at hl 1 rfl) ?_
        refine r_getr (t := 1) C hp xk_0 xs_0 xc_8 xin_8 (j := 0) (by decide) rfl gw_431 rfl dX8_weigh_79 ?_
        refine r_getr (t := 8) C hp xk_1 xs_1 xc_1 xin_1 (j := 12) (by decide) rfl gw_180 rfl dX8_weigh_82 ?_
        refine r_iconst C dX8_weigh_85 ?_
        refine lv_iload_n C.1 C.2.1 dX8_weigh_86 rfl (lv_at hl 3 rfl) ?_
        refine r_iast C hp h xk_8 xs_8 dX8_weigh_87 (fun M20 H locs h hp => ?_)
        refine lv_aload_n C.1 C.2.1 dX8_weigh_88 rfl (lv_at hl 1 rfl) ?_
        refine r_getr (t := 1) C hp xk_0 xs_0 xc_8 xin_8 (j := 0) (by decide) rfl gw_431 rfl dX8_weigh_89 ?_
        refine r_getr (t := 8) C hp xk_1 xs_1 xc_1 xin_1 (j := 12) (by decide) rfl gw_180 rfl dX8_weigh_92 ?_
        refine r_iconst C dX8_weigh_95 ?_
        refine lv_iload_n C.1 C.2.1 dX8_weigh_96 rfl (lv_at hl 4 rfl) ?_
        refine r_iast C hp h xk_8 xs_8 dX8_weigh_97 (fun M21 H locs h hp => ?_)
        refine lv_aload_n C.1 C.2.1 dX8_weigh_98 rfl (lv_at hl 1 rfl) ?_
        refine r_getr (t := 1) C hp xk_0 xs_0 xc_8 xin_8 (j := 0) (by decide) rfl gw_431 rfl dX8_weigh_99 ?_
        refine r_getr (t := 8) C hp xk_1 xs_1 xc_1 xin_1 (j := 12) (by decide) rfl gw_180 rfl dX8_weigh_102 ?_
        refine r_iconst C dX8_weigh_105 ?_
        refine lv_iload C.1 C.2.1 dX8_weigh_106 (lv_at hl 5 rfl) ?_
        refine r_iast C hp h xk_8 xs_8 dX8_weigh_108 (fun M22 H locs h hp => ?_)
        refine r_iconst C dX8_weigh_109 ?_
        cases h
        exact hR _ _ _ _ dX8_weigh_110 g_nz1 hp
      · refine r_iconst C dX8_weigh_66 ?_
        cases h
        exact hR _ _ _ _ dX8_weigh_67 g_nz0 hp
  refine r_jn (P := fun J => ∀  (H : Heap) (locs : List Loc) (ls : Array Slot), J  = some res → g_PT xG V M s H locs → lv_has ls 6 [(0, .ref (V.2.2 0)), (1, .int (gI a1)), (2, .int (gI a2)), (3, .int (gI a3)), (4, .int (gI a4))] → W p l e R s m args below meth c H locs 0 0 Q (F0 m 45 ls [])) h ?_ (fun J11 hJ11 h => ?_)
  · intro  H locs ls h hp hl
    refine r_iconst C dX8_weigh_45 ?_
    exact hJ12 _ _ _ _ h hp hl
  refine lv_iload_n C.1 C.2.1 dX8_weigh_0 rfl (lv_at hl 1 rfl) ?_
  refine r_iconst C dX8_weigh_1 ?_
  refine r_bipush C dX8_weigh_2 (by decide +kernel) ?_
  obtain ⟨x13, hr, h⟩ := bd_of h
  refine r_callSI (As := [.int (gI a1), .int (gI 0), .int (gI 10)]) (rest := []) C hl.1 hp (c_X8_within l C.2.2.2.2.2.2.2.2.2.2.2 hr) gw_463 gw_464 cal_X8_within rfl rfl (Nat.le_of_ble_eq_true rfl) ⟨Nat.le_of_ble_eq_true rfl, Nat.le_of_ble_eq_true rfl⟩ dX8_weigh_4 (fun H locs hp => ?_)
  refine r_if_eq (tgt := 45) C h dX8_weigh_7 (by decide) (fun h => ?_) (fun h => ?_)
  · exact hJ11  _ _ _ h hp hl
  · refine lv_iload_n C.1 C.2.1 dX8_weigh_10 rfl (lv_at hl 2 rfl) ?_
    refine r_iconst C dX8_weigh_11 ?_
    refine r_bipush C dX8_weigh_12 (by decide +kernel) ?_
    obtain ⟨x14, hr, h⟩ := bd_of h
    refine r_callSI (As := [.int (gI a2), .int (gI 0), .int (gI 10)]) (rest := []) C hl.1 hp (c_X8_within l C.2.2.2.2.2.2.2.2.2.2.2 hr) gw_463 gw_464 cal_X8_within rfl rfl (Nat.le_of_ble_eq_true rfl) ⟨Nat.le_of_ble_eq_true rfl, Nat.le_of_ble_eq_true rfl⟩ dX8_weigh_14 (fun H locs hp => ?_)
    refine r_if_eq (tgt := 45) C h dX8_weigh_17 (by decide) (fun h => ?_) (fun h => ?_)
    · exact hJ11  _ _ _ h hp hl
    · refine lv_iload_n C.1 C.2.1 dX8_weigh_20 rfl (lv_at hl 3 rfl) ?_
      refine r_iconst C dX8_weigh_21 ?_
      refine r_bipush C dX8_weigh_22 (by decide +kernel) ?_
      obtain ⟨x15, hr, h⟩ := bd_of h
      refine r_callSI (As := [.int (gI a3), .int (gI 0), .int (gI 10)]) (rest := []) C hl.1 hp (c_X8_within l C.2.2.2.2.2.2.2.2.2.2.2 hr) gw_463 gw_464 cal_X8_within rfl rfl (Nat.le_of_ble_eq_true rfl) ⟨Nat.le_of_ble_eq_true rfl, Nat.le_of_ble_eq_true rfl⟩ dX8_weigh_24 (fun H locs hp => ?_)
      refine r_if_eq (tgt := 45) C h dX8_weigh_27 (by decide) (fun h => ?_) (fun h => ?_)
      · exact hJ11  _ _ _ h hp hl
      · refine lv_iload C.1 C.2.1 dX8_weigh_30 (lv_at hl 4 rfl) ?_
        refine r_iconst C dX8_weigh_32 ?_
        refine r_bipush C dX8_weigh_33 (by decide +kernel) ?_
        obtain ⟨x16, hr, h⟩ := bd_of h
        refine r_callSI (As := [.int (gI a4), .int (gI 0), .int (gI 10)]) (rest := []) C hl.1 hp (c_X8_within l C.2.2.2.2.2.2.2.2.2.2.2 hr) gw_463 gw_464 cal_X8_within rfl rfl (Nat.le_of_ble_eq_true rfl) ⟨Nat.le_of_ble_eq_true rfl, Nat.le_of_ble_eq_true rfl⟩ dX8_weigh_35 (fun H locs hp => ?_)
        refine r_if_eq (tgt := 45) C h dX8_weigh_38 (by decide) (fun h => ?_) (fun h => ?_)
        · exact hJ11  _ _ _ h hp hl
        · refine r_iconst C dX8_weigh_41 ?_
          refine r_goto (tgt := 46) C dX8_weigh_42 (by decide) ?_
          exact hJ12 _ _ _ _ h hp hl
theorem c_X8_weigh (l : Launch) {V : g_V} (hok : g_ok xG V) {a1 : Int} {a2 : Int} {a3 : Int} {a4 : Int} {M : g_M} {x : Int} {M2 : g_M} (h : m_X8_weigh a1 a2 a3 a4 M = some (x, M2)) : MetI xG V l yX8_weigh cX8_weigh 6 (some .boolean) 1 22 [.ref (V.2.2 0), .int (gI a1), .int (gI a2), .int (gI a3), .int (gI a4)] M x M2 :=
  g_metI hok cal_X8_weigh.2.2.2 rfl (Nat.le_of_ble_eq_true rfl) (@fun p e R s m args below meth c Q ls C hR hp hl => b_X8_weigh C hR h hp hl)
set_option maxRecDepth 100000 in
set_option maxHeartbeats 4000000 in
theorem b_X8_kinds (C : g_CX xG V p R s m args meth c cX8_kinds 2 (some .int) RX8 6 130) {res : Int × g_M} (hR : g_RetI xG V p l e R s m args below meth c Q cX8_kinds .int res.1 res.2) {a1 : Int} {M : g_M} {H : Heap} {locs : List Loc} {ls : Array Slot} (h : m_X8_kinds a1 M = some res) (hp : g_PT xG V M s H locs) (hl : lv_has ls 2 [(0, .ref (V.2.2 0)), (1, .int (gI a1))]) : W p l e R s m args below meth c H locs 0 0 Q (F0 m 0 ls []) := by
  unfold m_X8_kinds at h
  refine lv_iload_n C.1 C.2.1 dX8_kinds_0 rfl (lv_at hl 1 rfl) ?_
  refine r_iconst C dX8_kinds_1 ?_
  refine r_icmp_ne (tgt := 13) C h dX8_kinds_2 (by decide) (fun h => ?_) (fun h => ?_)
  · refine lv_iload_n C.1 C.2.1 dX8_kinds_13 rfl (lv_at hl 1 rfl) ?_
    obtain ⟨x11, hr, h⟩ := bd_of h
    refine r_callSI (As := [.int (gI a1)]) (rest := []) C hl.1 hp (c_X8_isPlace l C.2.2.2.2.2.2.2.2.2.2.2 hr) gw_469 gw_470 cal_X8_isPlace rfl rfl (Nat.le_of_ble_eq_true rfl) ⟨Nat.le_of_ble_eq_true rfl, Nat.le_of_ble_eq_true rfl⟩ dX8_kinds_14 (fun H locs hp => ?_)
    refine r_if_ne (tgt := 23) C h dX8_kinds_17 (by decide) (fun h => ?_) (fun h => ?_)
    · refine lv_aload_n C.1 C.2.1 dX8_kinds_23 rfl (lv_at hl 0 rfl) ?_
      refine r_getr (t := 67) C hp xk_0 xs_0 xc_8 xin_8 (j := 5) (by decide) rfl gw_436 rfl dX8_kinds_24 ?_
      obtain ⟨x12, M13, hr, h⟩ := bW_of h
      refine r_callVI (As := []) (rest := []) C hl.1 hp (c_X0_sortAll l C.2.2.2.2.2.2.2.2.2.2.2 hr) gw_1066 gw_1067 gw_1068 xk_67 xs_67 xc_0 cal_X0_sortAll rfl rfl (Nat.le_of_ble_eq_true rfl) ⟨Nat.le_of_ble_eq_true rfl, Nat.le_of_ble_eq_true rfl⟩ dX8_kinds_27 (fun H locs hp => ?_)
      refine lv_pop C.1 C.2.1 dX8_kinds_30 rfl ?_
      refine lv_aload_n C.1 C.2.1 dX8_kinds_31 rfl (lv_at hl 0 rfl) ?_
      refine r_getr (t := 67) C hp xk_0 xs_0 xc_8 xin_8 (j := 5) (by decide) rfl gw_436 rfl dX8_kinds_32 ?_
      refine r_getr (t := 74) C hp xk_67 xs_67 xc_0 xin_0 (j := 7) (by decide) rfl gw_376 rfl dX8_kinds_35 ?_
      refine lv_iload_n C.1 C.2.1 dX8_kinds_38 rfl (lv_at hl 1 rfl) ?_
      refine r_iald C hp h xk_74 xs_74 dX8_kinds_39 (fun h => ?_)
      cases h
      exact hR _ _ _ _ dX8_kinds_40 rfl hp
    · refine r_bipush C dX8_kinds_20 (by decide +kernel) ?_
      cases h
      exact hR _ _ _ _ dX8_kinds_22 rfl hp
  · refine lv_aload_n C.1 C.2.1 dX8_kinds_5 rfl (lv_at hl 0 rfl) ?_
    refine r_getr (t := 67) C hp xk_0 xs_0 xc_8 xin_8 (j := 5) (by decide) rfl gw_436 rfl dX8_kinds_6 ?_
    obtain ⟨x14, M15, hr, h⟩ := bW_of h
    refine r_callVI (As := []) (rest := []) C hl.1 hp (c_X0_sortAll l C.2.2.2.2.2.2.2.2.2.2.2 hr) gw_1066 gw_1067 gw_1068 xk_67 xs_67 xc_0 cal_X0_sortAll rfl rfl (Nat.le_of_ble_eq_true rfl) ⟨Nat.le_of_ble_eq_true rfl, Nat.le_of_ble_eq_true rfl⟩ dX8_kinds_9 (fun H locs hp => ?_)
    cases h
    exact hR _ _ _ _ dX8_kinds_12 rfl hp
theorem c_X8_kinds (l : Launch) {V : g_V} (hok : g_ok xG V) {a1 : Int} {M : g_M} {x : Int} {M2 : g_M} (h : m_X8_kinds a1 M = some (x, M2)) : MetI xG V l yX8_kinds cX8_kinds 2 (some .int) 6 130 [.ref (V.2.2 0), .int (gI a1)] M x M2 :=
  g_metI hok cal_X8_kinds.2.2.2 rfl (Nat.le_of_ble_eq_true rfl) (@fun p e R s m args below meth c Q ls C hR hp hl => b_X8_kinds C hR h hp hl)
set_option maxRecDepth 100000 in
set_option maxHeartbeats 4000000 in
theorem b_X8_parts (C : g_CX xG V p R s m args meth c cX8_parts 3 (some .int) RX8 6 130) {res : Int × g_M} (hR : g_RetI xG V p l e R s m args below meth c Q cX8_parts .int res.1 res.2) {a1 : Int} {a2 : Int} {M : g_M} {H : Heap} {locs : List Loc} {ls : Array Slot} (h : m_X8_parts a1 a2 M = some res) (hp : g_PT xG V M s H locs) (hl : lv_has ls 3 [(0, .ref (V.2.2 0)), (1, .int (gI a1)), (2, .int (gI a2))]) : W p l e R s m args below meth c H locs 0 0 Q (F0 m 0 ls []) := by
  unfold m_X8_parts at h
  refine r_jn (P := fun J => ∀  (H : Heap) (locs : List Loc) (ls : Array Slot), J  = some res → g_PT xG V M s H locs → lv_has ls 3 [] → W p l e R s m args below meth c H locs 0 0 Q (F0 m 26 ls [])) h ?_ (fun J11 hJ11 h => ?_)
  · intro  H locs ls h hp hl
    refine r_iconst C dX8_parts_26 ?_
    cases h
    exact hR _ _ _ _ dX8_parts_27 rfl hp
  refine lv_iload_n C.1 C.2.1 dX8_parts_0 rfl (lv_at hl 1 rfl) ?_
  obtain ⟨x12, hr, h⟩ := bd_of h
  refine r_callSI (As := [.int (gI a1)]) (rest := []) C hl.1 hp (c_X8_isPlace l C.2.2.2.2.2.2.2.2.2.2.2 hr) gw_469 gw_470 cal_X8_isPlace rfl rfl (Nat.le_of_ble_eq_true rfl) ⟨Nat.le_of_ble_eq_true rfl, Nat.le_of_ble_eq_true rfl⟩ dX8_parts_1 (fun H locs hp => ?_)
  refine r_if_eq (tgt := 26) C h dX8_parts_4 (by decide) (fun h => ?_) (fun h => ?_)
  · exact hJ11  _ _ _ h hp (lv_sub hl [] rfl)
  · refine lv_iload_n C.1 C.2.1 dX8_parts_7 rfl (lv_at hl 2 rfl) ?_
    obtain ⟨x13, hr, h⟩ := bd_of h
    refine r_callSI (As := [.int (gI a2)]) (rest := []) C hl.1 hp (c_X8_isPlace l C.2.2.2.2.2.2.2.2.2.2.2 hr) gw_469 gw_470 cal_X8_isPlace rfl rfl (Nat.le_of_ble_eq_true rfl) ⟨Nat.le_of_ble_eq_true rfl, Nat.le_of_ble_eq_true rfl⟩ dX8_parts_8 (fun H locs hp => ?_)
    refine r_if_eq (tgt := 26) C h dX8_parts_11 (by decide) (fun h => ?_) (fun h => ?_)
    · exact hJ11  _ _ _ h hp (lv_sub hl [] rfl)
    · refine lv_aload_n C.1 C.2.1 dX8_parts_14 rfl (lv_at hl 0 rfl) ?_
      refine r_getr (t := 67) C hp xk_0 xs_0 xc_8 xin_8 (j := 5) (by decide) rfl gw_436 rfl dX8_parts_15 ?_
      refine lv_iload_n C.1 C.2.1 dX8_parts_18 rfl (lv_at hl 1 rfl) ?_
      refine lv_iload_n C.1 C.2.1 dX8_parts_19 rfl (lv_at hl 2 rfl) ?_
      obtain ⟨x14, M15, hr, h⟩ := bW_of h
      refine r_callVI (As := [.int (gI a1), .int (gI a2)]) (rest := []) C hl.1 hp (c_X0_parted l C.2.2.2.2.2.2.2.2.2.2.2 hr) gw_1086 gw_1087 gw_1088 xk_67 xs_67 xc_0 cal_X0_parted rfl rfl (Nat.le_of_ble_eq_true rfl) ⟨Nat.le_of_ble_eq_true rfl, Nat.le_of_ble_eq_true rfl⟩ dX8_parts_20 (fun H locs hp => ?_)
      refine r_goto (tgt := 27) C dX8_parts_23 (by decide) ?_
      cases h
      exact hR _ _ _ _ dX8_parts_27 rfl hp
theorem c_X8_parts (l : Launch) {V : g_V} (hok : g_ok xG V) {a1 : Int} {a2 : Int} {M : g_M} {x : Int} {M2 : g_M} (h : m_X8_parts a1 a2 M = some (x, M2)) : MetI xG V l yX8_parts cX8_parts 3 (some .int) 6 130 [.ref (V.2.2 0), .int (gI a1), .int (gI a2)] M x M2 :=
  g_metI hok cal_X8_parts.2.2.2 rfl (Nat.le_of_ble_eq_true rfl) (@fun p e R s m args below meth c Q ls C hR hp hl => b_X8_parts C hR h hp hl)
set_option maxRecDepth 100000 in
set_option maxHeartbeats 4000000 in
theorem b_X8_round (C : g_CX xG V p R s m args meth c cX8_round 2 (some .int) RX8 6 133) {res : Int × g_M} (hR : g_RetI xG V p l e R s m args below meth c Q cX8_round .int res.1 res.2) {a1 : Int} {M : g_M} {H : Heap} {locs : List Loc} {ls : Array Slot} (h : m_X8_round a1 M = some res) (hp : g_PT xG V M s H locs) (hl : lv_has ls 2 [(0, .ref (V.2.2 0)), (1, .int (gI a1))]) : W p l e R s m args below meth c H locs 0 0 Q (F0 m 0 ls []) := by
  unfold m_X8_round at h
  refine lv_iload_n C.1 C.2.1 dX8_round_0 rfl (lv_at hl 1 rfl) ?_
  obtain ⟨x11, hr, h⟩ := bd_of h
  refine r_callSI (As := [.int (gI a1)]) (rest := []) C hl.1 hp (c_X8_isScene l C.2.2.2.2.2.2.2.2.2.2.2 hr) gw_460 gw_461 cal_X8_isScene rfl rfl (Nat.le_of_ble_eq_true rfl) ⟨Nat.le_of_ble_eq_true rfl, Nat.le_of_ble_eq_true rfl⟩ dX8_round_1 (fun H locs hp => ?_)
  refine r_if_ne (tgt := 9) C h dX8_round_4 (by decide) (fun h => ?_) (fun h => ?_)
  · refine lv_aload_n C.1 C.2.1 dX8_round_9 rfl (lv_at hl 0 rfl) ?_
    refine r_getr (t := 67) C hp xk_0 xs_0 xc_8 xin_8 (j := 5) (by decide) rfl gw_436 rfl dX8_round_10 ?_
    refine lv_iload_n C.1 C.2.1 dX8_round_13 rfl (lv_at hl 1 rfl) ?_
    obtain ⟨x12, M13, hr, h⟩ := bW_of h
    refine r_callVI (As := [.int (gI a1)]) (rest := []) C hl.1 hp (c_X0_comesAgain l C.2.2.2.2.2.2.2.2.2.2.2 hr) gw_1094 gw_1095 gw_1096 xk_67 xs_67 xc_0 cal_X0_comesAgain rfl rfl (Nat.le_of_ble_eq_true rfl) ⟨Nat.le_of_ble_eq_true rfl, Nat.le_of_ble_eq_true rfl⟩ dX8_round_14 (fun H locs hp => ?_)
    refine r_if_eq (tgt := 24) C h dX8_round_17 (by decide) (fun h => ?_) (fun h => ?_)
    · refine r_iconst C dX8_round_24 ?_
      cases h
      exact hR _ _ _ _ dX8_round_25 rfl hp
    · refine r_iconst C dX8_round_20 ?_
      refine r_goto (tgt := 25) C dX8_round_21 (by decide) ?_
      cases h
      exact hR _ _ _ _ dX8_round_25 rfl hp
  · refine r_iconst C dX8_round_7 ?_
    cases h
    exact hR _ _ _ _ dX8_round_8 rfl hp
theorem c_X8_round (l : Launch) {V : g_V} (hok : g_ok xG V) {a1 : Int} {M : g_M} {x : Int} {M2 : g_M} (h : m_X8_round a1 M = some (x, M2)) : MetI xG V l yX8_round cX8_round 2 (some .int) 6 133 [.ref (V.2.2 0), .int (gI a1)] M x M2 :=
  g_metI hok cal_X8_round.2.2.2 rfl (Nat.le_of_ble_eq_true rfl) (@fun p e R s m args below meth c Q ls C hR hp hl => b_X8_round C hR h hp hl)
set_option maxRecDepth 100000 in
set_option maxHeartbeats 4000000 in
theorem b_X8_dead (C : g_CX xG V p R s m args meth c cX8_dead 1 (some .int) RX8 6 133) {res : Int × g_M} (hR : g_RetI xG V p l e R s m args below meth c Q cX8_dead .int res.1 res.2)  {M : g_M} {H : Heap} {locs : List Loc} {ls : Array Slot} (h : m_X8_dead M = some res) (hp : g_PT xG V M s H locs) (hl : lv_has ls 1 [(0, .ref (V.2.2 0))]) : W p l e R s m args below meth c H locs 0 0 Q (F0 m 0 ls []) := by
  unfold m_X8_dead at h
  refine lv_aload_n C.1 C.2.1 dX8_dead_0 rfl (lv_at hl 0 rfl) ?_
  refine r_getr (t := 67) C hp xk_0 xs_0 xc_8 xin_8 (j := 5) (by decide) rfl gw_436 rfl dX8_dead_1 ?_
  obtain ⟨x11, M12, hr, h⟩ := bW_of h
  refine r_callVI (As := []) (rest := []) C hl.1 hp (c_X0_deadBits l C.2.2.2.2.2.2.2.2.2.2.2 hr) gw_1102 gw_1103 gw_1104 xk_67 xs_67 xc_0 cal_X0_deadBits rfl rfl (Nat.le_of_ble_eq_true rfl) ⟨Nat.le_of_ble_eq_true rfl, Nat.le_of_ble_eq_true rfl⟩ dX8_dead_4 (fun H locs hp => ?_)
  cases h
  exact hR _ _ _ _ dX8_dead_7 rfl hp
theorem c_X8_dead (l : Launch) {V : g_V} (hok : g_ok xG V)  {M : g_M} {x : Int} {M2 : g_M} (h : m_X8_dead M = some (x, M2)) : MetI xG V l yX8_dead cX8_dead 1 (some .int) 6 133 [.ref (V.2.2 0)] M x M2 :=
  g_metI hok cal_X8_dead.2.2.2 rfl (Nat.le_of_ble_eq_true rfl) (@fun p e R s m args below meth c Q ls C hR hp hl => b_X8_dead C hR h hp hl)
set_option maxRecDepth 100000 in
set_option maxHeartbeats 4000000 in
theorem b_X8_far (C : g_CX xG V p R s m args meth c cX8_far 1 (some .int) RX8 6 133) {res : Int × g_M} (hR : g_RetI xG V p l e R s m args below meth c Q cX8_far .int res.1 res.2)  {M : g_M} {H : Heap} {locs : List Loc} {ls : Array Slot} (h : m_X8_far M = some res) (hp : g_PT xG V M s H locs) (hl : lv_has ls 1 [(0, .ref (V.2.2 0))]) : W p l e R s m args below meth c H locs 0 0 Q (F0 m 0 ls []) := by
  unfold m_X8_far at h
  refine lv_aload_n C.1 C.2.1 dX8_far_0 rfl (lv_at hl 0 rfl) ?_
  refine r_getr (t := 67) C hp xk_0 xs_0 xc_8 xin_8 (j := 5) (by decide) rfl gw_436 rfl dX8_far_1 ?_
  obtain ⟨x11, M12, hr, h⟩ := bW_of h
  refine r_callVI (As := []) (rest := []) C hl.1 hp (c_X0_farthest l C.2.2.2.2.2.2.2.2.2.2.2 hr) gw_1110 gw_1111 gw_1112 xk_67 xs_67 xc_0 cal_X0_farthest rfl rfl (Nat.le_of_ble_eq_true rfl) ⟨Nat.le_of_ble_eq_true rfl, Nat.le_of_ble_eq_true rfl⟩ dX8_far_4 (fun H locs hp => ?_)
  cases h
  exact hR _ _ _ _ dX8_far_7 rfl hp
theorem c_X8_far (l : Launch) {V : g_V} (hok : g_ok xG V)  {M : g_M} {x : Int} {M2 : g_M} (h : m_X8_far M = some (x, M2)) : MetI xG V l yX8_far cX8_far 1 (some .int) 6 133 [.ref (V.2.2 0)] M x M2 :=
  g_metI hok cal_X8_far.2.2.2 rfl (Nat.le_of_ble_eq_true rfl) (@fun p e R s m args below meth c Q ls C hR hp hl => b_X8_far C hR h hp hl)
set_option maxRecDepth 100000 in
set_option maxHeartbeats 4000000 in
theorem b_X8_look (C : g_CX xG V p R s m args meth c cX8_look 2 (some .int) RX8 4 88) {res : Int × g_M} (hR : g_RetI xG V p l e R s m args below meth c Q cX8_look .int res.1 res.2) {a1 : Int} {M : g_M} {H : Heap} {locs : List Loc} {ls : Array Slot} (h : m_X8_look a1 M = some res) (hp : g_PT xG V M s H locs) (hl : lv_has ls 2 [(0, .ref (V.2.2 0)), (1, .int (gI a1))]) : W p l e R s m args below meth c H locs 0 0 Q (F0 m 0 ls []) := by
  unfold m_X8_look at h
  refine lv_iload_n C.1 C.2.1 dX8_look_0 rfl (lv_at hl 1 rfl) ?_
  refine r_iconst C dX8_look_1 ?_
  refine r_icmp_ne (tgt := 23) C h dX8_look_2 (by decide) (fun h => ?_) (fun h => ?_)
  · refine lv_iload_n C.1 C.2.1 dX8_look_23 rfl (lv_at hl 1 rfl) ?_
    refine r_iconst C dX8_look_24 ?_
    refine r_iconst C dX8_look_25 ?_
    obtain ⟨x11, hr, h⟩ := bd_of h
    refine r_callSI (As := [.int (gI a1), .int (gI 0), .int (gI 3)]) (rest := []) C hl.1 hp (c_X8_within l C.2.2.2.2.2.2.2.2.2.2.2 hr) gw_463 gw_464 cal_X8_within rfl rfl (Nat.le_of_ble_eq_true rfl) ⟨Nat.le_of_ble_eq_true rfl, Nat.le_of_ble_eq_true rfl⟩ dX8_look_26 (fun H locs hp => ?_)
    refine r_if_eq (tgt := 43) C h dX8_look_29 (by decide) (fun h => ?_) (fun h => ?_)
    · refine r_bipush C dX8_look_43 (by decide +kernel) ?_
      cases h
      exact hR _ _ _ _ dX8_look_45 rfl hp
    · refine lv_aload_n C.1 C.2.1 dX8_look_32 rfl (lv_at hl 0 rfl) ?_
      refine r_getr (t := 76) C hp xk_0 xs_0 xc_8 xin_8 (j := 6) (by decide) rfl gw_437 rfl dX8_look_33 ?_
      refine lv_iload_n C.1 C.2.1 dX8_look_36 rfl (lv_at hl 1 rfl) ?_
      obtain ⟨x12, M13, hr, h⟩ := bW_of h
      refine r_callVI (As := [.int (gI a1)]) (rest := []) C hl.1 hp (c_X6_watch l C.2.2.2.2.2.2.2.2.2.2.2 hr) gw_1118 gw_1119 gw_1120 xk_76 xs_76 xc_6 cal_X6_watch rfl rfl (Nat.le_of_ble_eq_true rfl) ⟨Nat.le_of_ble_eq_true rfl, Nat.le_of_ble_eq_true rfl⟩ dX8_look_37 (fun H locs hp => ?_)
      refine r_goto (tgt := 45) C dX8_look_40 (by decide) ?_
      cases h
      exact hR _ _ _ _ dX8_look_45 rfl hp
  · refine lv_aload_n C.1 C.2.1 dX8_look_5 rfl (lv_at hl 0 rfl) ?_
    refine r_getr (t := 1) C hp xk_0 xs_0 xc_8 xin_8 (j := 0) (by decide) rfl gw_431 rfl dX8_look_6 ?_
    refine r_sipush C dX8_look_9 (by decide +kernel) ?_
    refine r_puti C hp h xk_1 xs_1 xc_1 xin_1 tyX1 tyX1_ok nmX1 (j := 13) (by decide) rfl gw_183 rfl rfl rfl dX8_look_12 (fun M14 H locs h hp => ?_)
    refine lv_aload_n C.1 C.2.1 dX8_look_15 rfl (lv_at hl 0 rfl) ?_
    refine r_getr (t := 1) C hp xk_0 xs_0 xc_8 xin_8 (j := 0) (by decide) rfl gw_431 rfl dX8_look_16 ?_
    refine r_geti (t := 0) C hp xk_1 xs_1 xc_1 xin_1 (j := 13) (by decide) rfl gw_183 rfl dX8_look_19 ?_
    cases h
    exact hR _ _ _ _ dX8_look_22 rfl hp
theorem c_X8_look (l : Launch) {V : g_V} (hok : g_ok xG V) {a1 : Int} {M : g_M} {x : Int} {M2 : g_M} (h : m_X8_look a1 M = some (x, M2)) : MetI xG V l yX8_look cX8_look 2 (some .int) 4 88 [.ref (V.2.2 0), .int (gI a1)] M x M2 :=
  g_metI hok cal_X8_look.2.2.2 rfl (Nat.le_of_ble_eq_true rfl) (@fun p e R s m args below meth c Q ls C hR hp hl => b_X8_look C hR h hp hl)
set_option maxRecDepth 100000 in
set_option maxHeartbeats 4000000 in
theorem b_X8_sure (C : g_CX xG V p R s m args meth c cX8_sure 1 (some .int) RX8 1 22) {res : Int} {M : g_M} (hR : g_RetI xG V p l e R s m args below meth c Q cX8_sure .int res M)  {H : Heap} {locs : List Loc} {ls : Array Slot} (h : m_X8_sure M = some res) (hp : g_PT xG V M s H locs) (hl : lv_has ls 1 [(0, .ref (V.2.2 0))]) : W p l e R s m args below meth c H locs 0 0 Q (F0 m 0 ls []) := by
  unfold m_X8_sure at h
  refine lv_aload_n C.1 C.2.1 dX8_sure_0 rfl (lv_at hl 0 rfl) ?_
  refine r_getr (t := 76) C hp xk_0 xs_0 xc_8 xin_8 (j := 6) (by decide) rfl gw_437 rfl dX8_sure_1 ?_
  obtain ⟨x11, hr, h⟩ := bd_of h
  refine r_callVI (As := []) (rest := []) C hl.1 hp (c_X6_onlyScene l C.2.2.2.2.2.2.2.2.2.2.2 hr) gw_1131 gw_1132 gw_1133 xk_76 xs_76 xc_6 cal_X6_onlyScene rfl rfl (Nat.le_of_ble_eq_true rfl) ⟨Nat.le_of_ble_eq_true rfl, Nat.le_of_ble_eq_true rfl⟩ dX8_sure_4 (fun H locs hp => ?_)
  cases h
  exact hR _ _ _ _ dX8_sure_7 rfl hp
theorem c_X8_sure (l : Launch) {V : g_V} (hok : g_ok xG V)  {M : g_M} {x : Int} (h : m_X8_sure M = some x) : MetI xG V l yX8_sure cX8_sure 1 (some .int) 1 22 [.ref (V.2.2 0)] M x M :=
  g_metI hok cal_X8_sure.2.2.2 rfl (Nat.le_of_ble_eq_true rfl) (@fun p e R s m args below meth c Q ls C hR hp hl => b_X8_sure C hR h hp hl)
set_option maxRecDepth 100000 in
set_option maxHeartbeats 4000000 in
theorem b_X8_tells (C : g_CX xG V p R s m args meth c cX8_tells 1 (some .int) RX8 5 112) {res : Int} {M : g_M} (hR : g_RetI xG V p l e R s m args below meth c Q cX8_tells .int res M)  {H : Heap} {locs : List Loc} {ls : Array Slot} (h : m_X8_tells M = some res) (hp : g_PT xG V M s H locs) (hl : lv_has ls 1 [(0, .ref (V.2.2 0))]) : W p l e R s m args below meth c H locs 0 0 Q (F0 m 0 ls []) := by
  unfold m_X8_tells at h
  refine lv_aload_n C.1 C.2.1 dX8_tells_0 rfl (lv_at hl 0 rfl) ?_
  refine r_getr (t := 76) C hp xk_0 xs_0 xc_8 xin_8 (j := 6) (by decide) rfl gw_437 rfl dX8_tells_1 ?_
  obtain ⟨x11, hr, h⟩ := bd_of h
  refine r_callVI (As := []) (rest := []) C hl.1 hp (c_X6_tellingCue l C.2.2.2.2.2.2.2.2.2.2.2 hr) gw_1139 gw_1140 gw_1141 xk_76 xs_76 xc_6 cal_X6_tellingCue rfl rfl (Nat.le_of_ble_eq_true rfl) ⟨Nat.le_of_ble_eq_true rfl, Nat.le_of_ble_eq_true rfl⟩ dX8_tells_4 (fun H locs hp => ?_)
  cases h
  exact hR _ _ _ _ dX8_tells_7 rfl hp
theorem c_X8_tells (l : Launch) {V : g_V} (hok : g_ok xG V)  {M : g_M} {x : Int} (h : m_X8_tells M = some x) : MetI xG V l yX8_tells cX8_tells 1 (some .int) 5 112 [.ref (V.2.2 0)] M x M :=
  g_metI hok cal_X8_tells.2.2.2 rfl (Nat.le_of_ble_eq_true rfl) (@fun p e R s m args below meth c Q ls C hR hp hl => b_X8_tells C hR h hp hl)
set_option maxRecDepth 100000 in
set_option maxHeartbeats 4000000 in
theorem b_X8_ways (C : g_CX xG V p R s m args meth c cX8_ways 3 (some .long) RX8 6 134) {res : Int × g_M} (hR : g_RetL xG V p l e R s m args below meth c Q cX8_ways res.1 res.2) {a1 : Int} {a2 : Int} {M : g_M} {H : Heap} {locs : List Loc} {ls : Array Slot} (h : m_X8_ways a1 a2 M = some res) (hp : g_PT xG V M s H locs) (hl : lv_has ls 3 [(0, .ref (V.2.2 0)), (1, .int (gI a1)), (2, .int (gI a2))]) : W p l e R s m args below meth c H locs 0 0 Q (F0 m 0 ls []) := by
  unfold m_X8_ways at h
  refine r_jn (P := fun J => ∀  (H : Heap) (locs : List Loc) (ls : Array Slot), J  = some res → g_PT xG V M s H locs → lv_has ls 3 [] → W p l e R s m args below meth c H locs 0 0 Q (F0 m 29 ls [])) h ?_ (fun J11 hJ11 h => ?_)
  · intro  H locs ls h hp hl
    refine r_ldc2 (n := (-1)) C gw_1057 (by decide +kernel) dX8_ways_29 ?_
    cases h
    exact hR _ _ _ _ dX8_ways_32 hp
  refine lv_iload_n C.1 C.2.1 dX8_ways_0 rfl (lv_at hl 1 rfl) ?_
  obtain ⟨x12, hr, h⟩ := bd_of h
  refine r_callSI (As := [.int (gI a1)]) (rest := []) C hl.1 hp (c_X8_isPlace l C.2.2.2.2.2.2.2.2.2.2.2 hr) gw_469 gw_470 cal_X8_isPlace rfl rfl (Nat.le_of_ble_eq_true rfl) ⟨Nat.le_of_ble_eq_true rfl, Nat.le_of_ble_eq_true rfl⟩ dX8_ways_1 (fun H locs hp => ?_)
  refine r_if_eq (tgt := 29) C h dX8_ways_4 (by decide) (fun h => ?_) (fun h => ?_)
  · exact hJ11  _ _ _ h hp (lv_sub hl [] rfl)
  · refine lv_iload_n C.1 C.2.1 dX8_ways_7 rfl (lv_at hl 2 rfl) ?_
    refine r_iconst C dX8_ways_8 ?_
    refine r_bipush C dX8_ways_9 (by decide +kernel) ?_
    obtain ⟨x13, hr, h⟩ := bd_of h
    refine r_callSI (As := [.int (gI a2), .int (gI 0), .int (gI 12)]) (rest := []) C hl.1 hp (c_X8_within l C.2.2.2.2.2.2.2.2.2.2.2 hr) gw_463 gw_464 cal_X8_within rfl rfl (Nat.le_of_ble_eq_true rfl) ⟨Nat.le_of_ble_eq_true rfl, Nat.le_of_ble_eq_true rfl⟩ dX8_ways_11 (fun H locs hp => ?_)
    refine r_if_eq (tgt := 29) C h dX8_ways_14 (by decide) (fun h => ?_) (fun h => ?_)
    · exact hJ11  _ _ _ h hp (lv_sub hl [] rfl)
    · refine lv_aload_n C.1 C.2.1 dX8_ways_17 rfl (lv_at hl 0 rfl) ?_
      refine r_getr (t := 67) C hp xk_0 xs_0 xc_8 xin_8 (j := 5) (by decide) rfl gw_436 rfl dX8_ways_18 ?_
      refine lv_iload_n C.1 C.2.1 dX8_ways_21 rfl (lv_at hl 1 rfl) ?_
      refine lv_iload_n C.1 C.2.1 dX8_ways_22 rfl (lv_at hl 2 rfl) ?_
      obtain ⟨x14, M15, hr, h⟩ := bW_of h
      refine r_callVL (As := [.int (gI a1), .int (gI a2)]) (rest := []) C hl.1 hp (c_X0_waysJust l C.2.2.2.2.2.2.2.2.2.2.2 hr) gw_1153 gw_1154 gw_1155 xk_67 xs_67 xc_0 cal_X0_waysJust rfl rfl (Nat.le_of_ble_eq_true rfl) ⟨Nat.le_of_ble_eq_true rfl, Nat.le_of_ble_eq_true rfl⟩ dX8_ways_23 (fun H locs hp => ?_)
      refine r_goto (tgt := 32) C dX8_ways_26 (by decide) ?_
      cases h
      exact hR _ _ _ _ dX8_ways_32 hp
theorem c_X8_ways (l : Launch) {V : g_V} (hok : g_ok xG V) {a1 : Int} {a2 : Int} {M : g_M} {x : Int} {M2 : g_M} (h : m_X8_ways a1 a2 M = some (x, M2)) : MetL xG V l yX8_ways cX8_ways 3 (some .long) 6 134 [.ref (V.2.2 0), .int (gI a1), .int (gI a2)] M x M2 :=
  g_metL hok cal_X8_ways.2.2.2 rfl (Nat.le_of_ble_eq_true rfl) (@fun p e R s m args below meth c Q ls C hR hp hl => b_X8_ways C hR h hp hl)
set_option maxRecDepth 100000 in
set_option maxHeartbeats 4000000 in
theorem b_X8_likes (C : g_CX xG V p R s m args meth c cX8_likes 4 (some .boolean) RX8 1 22) {res : Int × g_M} (hR : g_RetI xG V p l e R s m args below meth c Q cX8_likes .boolean res.1 res.2) {a1 : Int} {a2 : Int} {a3 : Int} {M : g_M} {H : Heap} {locs : List Loc} {ls : Array Slot} (h : m_X8_likes a1 a2 a3 M = some res) (hp : g_PT xG V M s H locs) (hl : lv_has ls 4 [(0, .ref (V.2.2 0)), (1, .int (gI a1)), (2, .int (gI a2)), (3, .int (gI a3))]) : W p l e R s m args below meth c H locs 0 0 Q (F0 m 0 ls []) := by
  unfold m_X8_likes at h
  refine lv_iload_n C.1 C.2.1 dX8_likes_0 rfl (lv_at hl 1 rfl) ?_
  refine r_iconst C dX8_likes_1 ?_
  refine r_bipush C dX8_likes_2 (by decide +kernel) ?_
  obtain ⟨x11, hr, h⟩ := bd_of h
  refine r_callSI (As := [.int (gI a1), .int (gI 0), .int (gI 7)]) (rest := []) C hl.1 hp (c_X8_within l C.2.2.2.2.2.2.2.2.2.2.2 hr) gw_463 gw_464 cal_X8_within rfl rfl (Nat.le_of_ble_eq_true rfl) ⟨Nat.le_of_ble_eq_true rfl, Nat.le_of_ble_eq_true rfl⟩ dX8_likes_4 (fun H locs hp => ?_)
  refine r_if_eq (tgt := 29) C h dX8_likes_7 (by decide) (fun h => ?_) (fun h => ?_)
  · refine r_iconst C dX8_likes_29 ?_
    cases h
    exact hR _ _ _ _ dX8_likes_30 g_nz0 hp
  · refine lv_iload_n C.1 C.2.1 dX8_likes_10 rfl (lv_at hl 2 rfl) ?_
    refine r_iconst C dX8_likes_11 ?_
    refine r_iconst C dX8_likes_12 ?_
    obtain ⟨x12, hr, h⟩ := bd_of h
    refine r_callSI (As := [.int (gI a2), .int (gI 0), .int (gI 4)]) (rest := []) C hl.1 hp (c_X8_within l C.2.2.2.2.2.2.2.2.2.2.2 hr) gw_463 gw_464 cal_X8_within rfl rfl (Nat.le_of_ble_eq_true rfl) ⟨Nat.le_of_ble_eq_true rfl, Nat.le_of_ble_eq_true rfl⟩ dX8_likes_13 (fun H locs hp => ?_)
    refine r_if_eq (tgt := 29) C h dX8_likes_16 (by decide) (fun h => ?_) (fun h => ?_)
    · refine r_iconst C dX8_likes_29 ?_
      cases h
      exact hR _ _ _ _ dX8_likes_30 g_nz0 hp
    · refine lv_iload_n C.1 C.2.1 dX8_likes_19 rfl (lv_at hl 3 rfl) ?_
      refine r_iconst C dX8_likes_20 ?_
      refine r_bipush C dX8_likes_21 (by decide +kernel) ?_
      obtain ⟨x13, hr, h⟩ := bd_of h
      refine r_callSI (As := [.int (gI a3), .int (gI 0), .int (gI 99)]) (rest := []) C hl.1 hp (c_X8_within l C.2.2.2.2.2.2.2.2.2.2.2 hr) gw_463 gw_464 cal_X8_within rfl rfl (Nat.le_of_ble_eq_true rfl) ⟨Nat.le_of_ble_eq_true rfl, Nat.le_of_ble_eq_true rfl⟩ dX8_likes_23 (fun H locs hp => ?_)
      refine r_if_ne (tgt := 31) C h dX8_likes_26 (by decide) (fun h => ?_) (fun h => ?_)
      · refine lv_aload_n C.1 C.2.1 dX8_likes_31 rfl (lv_at hl 0 rfl) ?_
        refine r_getr (t := 1) C hp xk_0 xs_0 xc_8 xin_8 (j := 0) (by decide) rfl gw_431 rfl dX8_likes_32 ?_
        refine r_getr (t := 9) C hp xk_1 xs_1 xc_1 xin_1 (j := 14) (by decide) rfl gw_186 rfl dX8_likes_35 ?_
        refine lv_iload_n C.1 C.2.1 dX8_likes_38 rfl (lv_at hl 1 rfl) ?_
        refine r_iconst C dX8_likes_39 ?_
        refine r_imul C dX8_likes_40 ?_
        refine lv_iload_n C.1 C.2.1 dX8_likes_41 rfl (lv_at hl 2 rfl) ?_
        refine r_iadd C dX8_likes_42 ?_
        refine lv_iload_n C.1 C.2.1 dX8_likes_43 rfl (lv_at hl 3 rfl) ?_
        refine r_iast C hp h xk_9 xs_9 dX8_likes_44 (fun M14 H locs h hp => ?_)
        refine r_iconst C dX8_likes_45 ?_
        cases h
        exact hR _ _ _ _ dX8_likes_46 g_nz1 hp
      · refine r_iconst C dX8_likes_29 ?_
        cases h
        exact hR _ _ _ _ dX8_likes_30 g_nz0 hp
theorem c_X8_likes (l : Launch) {V : g_V} (hok : g_ok xG V) {a1 : Int} {a2 : Int} {a3 : Int} {M : g_M} {x : Int} {M2 : g_M} (h : m_X8_likes a1 a2 a3 M = some (x, M2)) : MetI xG V l yX8_likes cX8_likes 4 (some .boolean) 1 22 [.ref (V.2.2 0), .int (gI a1), .int (gI a2), .int (gI a3)] M x M2 :=
  g_metI hok cal_X8_likes.2.2.2 rfl (Nat.le_of_ble_eq_true rfl) (@fun p e R s m args below meth c Q ls C hR hp hl => b_X8_likes C hR h hp hl)
set_option maxRecDepth 100000 in
set_option maxHeartbeats 4000000 in
theorem b_X8_roster (C : g_CX xG V p R s m args meth c cX8_roster 3 (some .int) RX8 4 91) {res : Int × g_M} (hR : g_RetI xG V p l e R s m args below meth c Q cX8_roster .int res.1 res.2) {a1 : Int} {a2 : Int} {M : g_M} {H : Heap} {locs : List Loc} {ls : Array Slot} (h : m_X8_roster a1 a2 M = some res) (hp : g_PT xG V M s H locs) (hl : lv_has ls 3 [(0, .ref (V.2.2 0)), (1, .int (gI a1)), (2, .int (gI a2))]) : W p l e R s m args below meth c H locs 0 0 Q (F0 m 0 ls []) := by
  unfold m_X8_roster at h
  refine lv_iload_n C.1 C.2.1 dX8_roster_0 rfl (lv_at hl 1 rfl) ?_
  refine r_iconst C dX8_roster_1 ?_
  refine r_bipush C dX8_roster_2 (by decide +kernel) ?_
  obtain ⟨x11, hr, h⟩ := bd_of h
  refine r_callSI (As := [.int (gI a1), .int (gI 1), .int (gI 8)]) (rest := []) C hl.1 hp (c_X8_within l C.2.2.2.2.2.2.2.2.2.2.2 hr) gw_463 gw_464 cal_X8_within rfl rfl (Nat.le_of_ble_eq_true rfl) ⟨Nat.le_of_ble_eq_true rfl, Nat.le_of_ble_eq_true rfl⟩ dX8_roster_4 (fun H locs hp => ?_)
  refine r_if_eq (tgt := 23) C h dX8_roster_7 (by decide) (fun h => ?_) (fun h => ?_)
  · refine r_iconst C dX8_roster_23 ?_
    cases h
    exact hR _ _ _ _ dX8_roster_24 rfl hp
  · refine lv_aload_n C.1 C.2.1 dX8_roster_10 rfl (lv_at hl 0 rfl) ?_
    refine r_getr (t := 1) C hp xk_0 xs_0 xc_8 xin_8 (j := 0) (by decide) rfl gw_431 rfl dX8_roster_11 ?_
    refine r_geti (t := 0) C hp xk_1 xs_1 xc_1 xin_1 (j := 7) (by decide) rfl gw_167 rfl dX8_roster_14 ?_
    refine lv_iload_n C.1 C.2.1 dX8_roster_17 rfl (lv_at hl 1 rfl) ?_
    refine r_iconst C dX8_roster_18 ?_
    refine r_imul C dX8_roster_19 ?_
    refine r_icmp_le (tgt := 25) C h dX8_roster_20 (by decide) (fun h => ?_) (fun h => ?_)
    · refine r_jn (P := fun J => ∀  (H : Heap) (locs : List Loc) (ls : Array Slot), J  = some res → g_PT xG V M s H locs → lv_has ls 3 [(0, .ref (V.2.2 0)), (1, .int (gI a1)), (2, .int (gI a2))] → W p l e R s m args below meth c H locs 0 0 Q (F0 m 43 ls [])) h ?_ (fun J12 hJ12 h => ?_)
      · intro  H locs ls h hp hl
        refine lv_aload_n C.1 C.2.1 dX8_roster_43 rfl (lv_at hl 0 rfl) ?_
        refine r_getr (t := 77) C hp xk_0 xs_0 xc_8 xin_8 (j := 7) (by decide) rfl gw_438 rfl dX8_roster_44 ?_
        refine lv_iload_n C.1 C.2.1 dX8_roster_47 rfl (lv_at hl 1 rfl) ?_
        obtain ⟨M14, hr, h⟩ := bd_of h
        refine r_callVV (As := [.int (gI a1)]) (rest := []) C hl.1 hp (c_X5_assign l C.2.2.2.2.2.2.2.2.2.2.2 hr) gw_1165 gw_1166 gw_1167 xk_77 xs_77 xc_5 cal_X5_assign rfl rfl (Nat.le_of_ble_eq_true rfl) ⟨Nat.le_of_ble_eq_true rfl, Nat.le_of_ble_eq_true rfl⟩ dX8_roster_48 (fun H locs hp => ?_)
        refine lv_iload_n C.1 C.2.1 dX8_roster_51 rfl (lv_at hl 2 rfl) ?_
        refine r_iconst C dX8_roster_52 ?_
        refine r_icmp_ne (tgt := 66) C h dX8_roster_53 (by decide) (fun h => ?_) (fun h => ?_)
        · refine lv_aload_n C.1 C.2.1 dX8_roster_66 rfl (lv_at hl 0 rfl) ?_
          refine r_getr (t := 77) C hp xk_0 xs_0 xc_8 xin_8 (j := 7) (by decide) rfl gw_438 rfl dX8_roster_67 ?_
          refine r_getr (t := 78) C hp xk_77 xs_77 xc_5 xin_5 (j := 1) (by decide) rfl gw_416 rfl dX8_roster_70 ?_
          refine lv_iload_n C.1 C.2.1 dX8_roster_73 rfl (lv_at hl 2 rfl) ?_
          refine r_iald C hp h xk_78 xs_78 dX8_roster_74 (fun h => ?_)
          cases h
          exact hR _ _ _ _ dX8_roster_75 rfl hp
        · refine lv_aload_n C.1 C.2.1 dX8_roster_56 rfl (lv_at hl 0 rfl) ?_
          refine r_getr (t := 77) C hp xk_0 xs_0 xc_8 xin_8 (j := 7) (by decide) rfl gw_438 rfl dX8_roster_57 ?_
          obtain ⟨x15, hr, h⟩ := bd_of h
          refine r_callVI (As := []) (rest := []) C hl.1 hp (c_X5_likesTogether l C.2.2.2.2.2.2.2.2.2.2.2 hr) gw_1193 gw_1194 gw_1195 xk_77 xs_77 xc_5 cal_X5_likesTogether rfl rfl (Nat.le_of_ble_eq_true rfl) ⟨Nat.le_of_ble_eq_true rfl, Nat.le_of_ble_eq_true rfl⟩ dX8_roster_60 (fun H locs hp => ?_)
          refine r_goto (tgt := 75) C dX8_roster_63 (by decide) ?_
          cases h
          exact hR _ _ _ _ dX8_roster_75 rfl hp
      refine lv_iload_n C.1 C.2.1 dX8_roster_25 rfl (lv_at hl 2 rfl) ?_
      refine r_iconst C dX8_roster_26 ?_
      refine r_icmp_eq (tgt := 43) C h dX8_roster_27 (by decide) (fun h => ?_) (fun h => ?_)
      · exact hJ12  _ _ _ h hp hl
      · refine lv_aload_n C.1 C.2.1 dX8_roster_30 rfl (lv_at hl 0 rfl) ?_
        refine r_getr (t := 1) C hp xk_0 xs_0 xc_8 xin_8 (j := 0) (by decide) rfl gw_431 rfl dX8_roster_31 ?_
        refine lv_iload_n C.1 C.2.1 dX8_roster_34 rfl (lv_at hl 2 rfl) ?_
        obtain ⟨x13, hr, h⟩ := bd_of h
        refine r_callVI (As := [.int (gI a2)]) (rest := []) C hl.1 hp (c_X1_isPerson l C.2.2.2.2.2.2.2.2.2.2.2 hr) gw_764 gw_765 gw_766 xk_1 xs_1 xc_1 cal_X1_isPerson rfl rfl (Nat.le_of_ble_eq_true rfl) ⟨Nat.le_of_ble_eq_true rfl, Nat.le_of_ble_eq_true rfl⟩ dX8_roster_35 (fun H locs hp => ?_)
        refine r_if_ne (tgt := 43) C h dX8_roster_38 (by decide) (fun h => ?_) (fun h => ?_)
        · exact hJ12  _ _ _ h hp hl
        · refine r_iconst C dX8_roster_41 ?_
          cases h
          exact hR _ _ _ _ dX8_roster_42 rfl hp
    · refine r_iconst C dX8_roster_23 ?_
      cases h
      exact hR _ _ _ _ dX8_roster_24 rfl hp
theorem c_X8_roster (l : Launch) {V : g_V} (hok : g_ok xG V) {a1 : Int} {a2 : Int} {M : g_M} {x : Int} {M2 : g_M} (h : m_X8_roster a1 a2 M = some (x, M2)) : MetI xG V l yX8_roster cX8_roster 3 (some .int) 4 91 [.ref (V.2.2 0), .int (gI a1), .int (gI a2)] M x M2 :=
  g_metI hok cal_X8_roster.2.2.2 rfl (Nat.le_of_ble_eq_true rfl) (@fun p e R s m args below meth c Q ls C hR hp hl => b_X8_roster C hR h hp hl)
set_option maxRecDepth 100000 in
set_option maxHeartbeats 4000000 in
theorem b_X8_felt (C : g_CX xG V p R s m args meth c cX8_felt 3 (some .int) RX8 1 22) {res : Int × g_M} (hR : g_RetI xG V p l e R s m args below meth c Q cX8_felt .int res.1 res.2) {a1 : Int} {a2 : Int} {M : g_M} {H : Heap} {locs : List Loc} {ls : Array Slot} (h : m_X8_felt a1 a2 M = some res) (hp : g_PT xG V M s H locs) (hl : lv_has ls 3 [(0, .ref (V.2.2 0)), (1, .int (gI a1)), (2, .int (gI a2))]) : W p l e R s m args below meth c H locs 0 0 Q (F0 m 0 ls []) := by
  unfold m_X8_felt at h
  refine lv_iload_n C.1 C.2.1 dX8_felt_0 rfl (lv_at hl 1 rfl) ?_
  refine r_iconst C dX8_felt_1 ?_
  refine r_icmp_ne (tgt := 15) C h dX8_felt_2 (by decide) (fun h => ?_) (fun h => ?_)
  · refine lv_aload_n C.1 C.2.1 dX8_felt_15 rfl (lv_at hl 0 rfl) ?_
    refine r_getr (t := 1) C hp xk_0 xs_0 xc_8 xin_8 (j := 0) (by decide) rfl gw_431 rfl dX8_felt_16 ?_
    refine lv_iload_n C.1 C.2.1 dX8_felt_19 rfl (lv_at hl 1 rfl) ?_
    obtain ⟨x11, hr, h⟩ := bd_of h
    refine r_callVI (As := [.int (gI a1)]) (rest := []) C hl.1 hp (c_X1_isPerson l C.2.2.2.2.2.2.2.2.2.2.2 hr) gw_764 gw_765 gw_766 xk_1 xs_1 xc_1 cal_X1_isPerson rfl rfl (Nat.le_of_ble_eq_true rfl) ⟨Nat.le_of_ble_eq_true rfl, Nat.le_of_ble_eq_true rfl⟩ dX8_felt_20 (fun H locs hp => ?_)
    refine r_if_eq (tgt := 48) C h dX8_felt_23 (by decide) (fun h => ?_) (fun h => ?_)
    · refine r_bipush C dX8_felt_48 (by decide +kernel) ?_
      cases h
      exact hR _ _ _ _ dX8_felt_50 rfl hp
    · refine lv_iload_n C.1 C.2.1 dX8_felt_26 rfl (lv_at hl 2 rfl) ?_
      refine r_iconst C dX8_felt_27 ?_
      refine r_bipush C dX8_felt_28 (by decide +kernel) ?_
      obtain ⟨x12, hr, h⟩ := bd_of h
      refine r_callSI (As := [.int (gI a2), .int (gI 0), .int (gI 99)]) (rest := []) C hl.1 hp (c_X8_within l C.2.2.2.2.2.2.2.2.2.2.2 hr) gw_463 gw_464 cal_X8_within rfl rfl (Nat.le_of_ble_eq_true rfl) ⟨Nat.le_of_ble_eq_true rfl, Nat.le_of_ble_eq_true rfl⟩ dX8_felt_30 (fun H locs hp => ?_)
      refine r_if_eq (tgt := 48) C h dX8_felt_33 (by decide) (fun h => ?_) (fun h => ?_)
      · refine r_bipush C dX8_felt_48 (by decide +kernel) ?_
        cases h
        exact hR _ _ _ _ dX8_felt_50 rfl hp
      · refine lv_aload_n C.1 C.2.1 dX8_felt_36 rfl (lv_at hl 0 rfl) ?_
        refine r_getr (t := 1) C hp xk_0 xs_0 xc_8 xin_8 (j := 0) (by decide) rfl gw_431 rfl dX8_felt_37 ?_
        refine r_geti (t := 0) C hp xk_1 xs_1 xc_1 xin_1 (j := 17) (by decide) rfl gw_195 rfl dX8_felt_40 ?_
        refine r_bipush C dX8_felt_43 (by decide +kernel) ?_
        refine r_icmp_lt (tgt := 51) C h dX8_felt_45 (by decide) (fun h => ?_) (fun h => ?_)
        · refine lv_aload_n C.1 C.2.1 dX8_felt_51 rfl (lv_at hl 0 rfl) ?_
          refine r_getr (t := 1) C hp xk_0 xs_0 xc_8 xin_8 (j := 0) (by decide) rfl gw_431 rfl dX8_felt_52 ?_
          refine r_getr (t := 10) C hp xk_1 xs_1 xc_1 xin_1 (j := 15) (by decide) rfl gw_189 rfl dX8_felt_55 ?_
          refine lv_aload_n C.1 C.2.1 dX8_felt_58 rfl (lv_at hl 0 rfl) ?_
          refine r_getr (t := 1) C hp xk_0 xs_0 xc_8 xin_8 (j := 0) (by decide) rfl gw_431 rfl dX8_felt_59 ?_
          refine r_geti (t := 0) C hp xk_1 xs_1 xc_1 xin_1 (j := 17) (by decide) rfl gw_195 rfl dX8_felt_62 ?_
          refine lv_iload_n C.1 C.2.1 dX8_felt_65 rfl (lv_at hl 1 rfl) ?_
          refine r_iast C hp h xk_10 xs_10 dX8_felt_66 (fun M13 H locs h hp => ?_)
          refine lv_aload_n C.1 C.2.1 dX8_felt_67 rfl (lv_at hl 0 rfl) ?_
          refine r_getr (t := 1) C hp xk_0 xs_0 xc_8 xin_8 (j := 0) (by decide) rfl gw_431 rfl dX8_felt_68 ?_
          refine r_getr (t := 11) C hp xk_1 xs_1 xc_1 xin_1 (j := 16) (by decide) rfl gw_192 rfl dX8_felt_71 ?_
          refine lv_aload_n C.1 C.2.1 dX8_felt_74 rfl (lv_at hl 0 rfl) ?_
          refine r_getr (t := 1) C hp xk_0 xs_0 xc_8 xin_8 (j := 0) (by decide) rfl gw_431 rfl dX8_felt_75 ?_
          refine r_geti (t := 0) C hp xk_1 xs_1 xc_1 xin_1 (j := 17) (by decide) rfl gw_195 rfl dX8_felt_78 ?_
          refine lv_iload_n C.1 C.2.1 dX8_felt_81 rfl (lv_at hl 2 rfl) ?_
          refine r_iast C hp h xk_11 xs_11 dX8_felt_82 (fun M14 H locs h hp => ?_)
          refine lv_aload_n C.1 C.2.1 dX8_felt_83 rfl (lv_at hl 0 rfl) ?_
          refine r_getr (t := 1) C hp xk_0 xs_0 xc_8 xin_8 (j := 0) (by decide) rfl gw_431 rfl dX8_felt_84 ?_
          refine lv_dup C.1 C.2.1 dX8_felt_87 rfl ?_
          refine r_geti (t := 0) C hp xk_1 xs_1 xc_1 xin_1 (j := 17) (by decide) rfl gw_195 rfl dX8_felt_88 ?_
          refine r_iconst C dX8_felt_91 ?_
          refine r_iadd C dX8_felt_92 ?_
          refine r_puti C hp h xk_1 xs_1 xc_1 xin_1 tyX1 tyX1_ok nmX1 (j := 17) (by decide) rfl gw_195 rfl rfl rfl dX8_felt_93 (fun M15 H locs h hp => ?_)
          refine lv_aload_n C.1 C.2.1 dX8_felt_96 rfl (lv_at hl 0 rfl) ?_
          refine r_getr (t := 1) C hp xk_0 xs_0 xc_8 xin_8 (j := 0) (by decide) rfl gw_431 rfl dX8_felt_97 ?_
          refine r_geti (t := 0) C hp xk_1 xs_1 xc_1 xin_1 (j := 17) (by decide) rfl gw_195 rfl dX8_felt_100 ?_
          cases h
          exact hR _ _ _ _ dX8_felt_103 rfl hp
        · refine r_bipush C dX8_felt_48 (by decide +kernel) ?_
          cases h
          exact hR _ _ _ _ dX8_felt_50 rfl hp
  · refine lv_aload_n C.1 C.2.1 dX8_felt_5 rfl (lv_at hl 0 rfl) ?_
    refine r_getr (t := 1) C hp xk_0 xs_0 xc_8 xin_8 (j := 0) (by decide) rfl gw_431 rfl dX8_felt_6 ?_
    refine r_iconst C dX8_felt_9 ?_
    refine r_puti C hp h xk_1 xs_1 xc_1 xin_1 tyX1 tyX1_ok nmX1 (j := 17) (by decide) rfl gw_195 rfl rfl rfl dX8_felt_10 (fun M16 H locs h hp => ?_)
    refine r_iconst C dX8_felt_13 ?_
    cases h
    exact hR _ _ _ _ dX8_felt_14 rfl hp
theorem c_X8_felt (l : Launch) {V : g_V} (hok : g_ok xG V) {a1 : Int} {a2 : Int} {M : g_M} {x : Int} {M2 : g_M} (h : m_X8_felt a1 a2 M = some (x, M2)) : MetI xG V l yX8_felt cX8_felt 3 (some .int) 1 22 [.ref (V.2.2 0), .int (gI a1), .int (gI a2)] M x M2 :=
  g_metI hok cal_X8_felt.2.2.2 rfl (Nat.le_of_ble_eq_true rfl) (@fun p e R s m args below meth c Q ls C hR hp hl => b_X8_felt C hR h hp hl)
set_option maxRecDepth 100000 in
set_option maxHeartbeats 4000000 in
theorem w_X8_whose_L11 (C : g_CX xG V p R s m args meth c cX8_whose 3 (some .int) RX8 4 100) {res : Int × g_M} (hR : g_RetI xG V p l e R s m args below meth c Q cX8_whose .int res.1 res.2)    : ∀ (f : Nat) (x14 : Int) (x15 : Int) (M16 : g_M) (H : Heap) (locs : List Loc) (ls : Array Slot), m_X8_whose_L11  f x14 x15 M16 = some res → g_PT xG V M16 s H locs → lv_has ls 3 [(0, .ref (V.2.2 0)), (1, .int (gI x14)), (2, .int (gI x15))] → W p l e R s m args below meth c H locs 0 0 Q (F0 m 11 ls []) := by
  intro f
  induction f with
  | zero => intro x14 x15 M16 H locs ls h hp hl; cases h
  | succ f ih =>
    intro x14 x15 M16 H locs ls h hp hl
    rw [m_X8_whose_L11] at h
    refine lv_iload_n C.1 C.2.1 dX8_whose_11 rfl (lv_at hl 2 rfl) ?_
    refine lv_aload_n C.1 C.2.1 dX8_whose_12 rfl (lv_at hl 0 rfl) ?_
    refine r_getr (t := 1) C hp xk_0 xs_0 xc_8 xin_8 (j := 0) (by decide) rfl gw_431 rfl dX8_whose_13 ?_
    refine r_geti (t := 0) C hp xk_1 xs_1 xc_1 xin_1 (j := 8) (by decide) rfl gw_169 rfl dX8_whose_16 ?_
    refine r_icmp_ge (tgt := 45) C h dX8_whose_19 (by decide) (fun h => ?_) (fun h => ?_)
    · refine lv_iload_n C.1 C.2.1 dX8_whose_45 rfl (lv_at hl 1 rfl) ?_
      cases h
      exact hR _ _ _ _ dX8_whose_46 rfl hp
    · refine r_jn (P := fun J => ∀ (x21 : Int) (M22 : g_M) (H : Heap) (locs : List Loc) (ls : Array Slot), J x21 M22 = some res → g_PT xG V M22 s H locs → lv_has ls 3 [(0, .ref (V.2.2 0)), (1, .int (gI x21)), (2, .int (gI x15))] → W p l e R s m args below meth c H locs 0 0 Q (F0 m 39 ls [])) h ?_ (fun J17 hJ17 h => ?_)
      · intro x21 M22 H locs ls h hp hl
        refine r_iinc (lv' := fun x23 => [(2, .int (gI x23)), (0, .ref (V.2.2 0)), (1, .int (gI x21))]) C h dX8_whose_39 hl (j := 2) rfl (by decide) (fun _ => rfl) (fun x23 ls h hl => ?_)
        refine r_goto (tgt := 11) C dX8_whose_42 (by decide) ?_
        exact ih _ _ _ _ _ _ h hp (lv_sub hl [1, 2, 0] rfl)
      refine lv_aload_n C.1 C.2.1 dX8_whose_22 rfl (lv_at hl 0 rfl) ?_
      refine r_getr (t := 31) C hp xk_0 xs_0 xc_8 xin_8 (j := 3) (by decide) rfl gw_434 rfl dX8_whose_23 ?_
      refine lv_iload_n C.1 C.2.1 dX8_whose_26 rfl (lv_at hl 2 rfl) ?_
      obtain ⟨x18, M19, hr, h⟩ := bW_of h
      refine r_callVI (As := [.int (gI x15)]) (rest := []) C hl.1 hp (c_X3_explains l C.2.2.2.2.2.2.2.2.2.2.2 hr) gw_1205 gw_1206 gw_1207 xk_31 xs_31 xc_3 cal_X3_explains rfl rfl (Nat.le_of_ble_eq_true rfl) ⟨Nat.le_of_ble_eq_true rfl, Nat.le_of_ble_eq_true rfl⟩ dX8_whose_27 (fun H locs hp => ?_)
      refine r_if_eq (tgt := 39) C h dX8_whose_30 (by decide) (fun h => ?_) (fun h => ?_)
      · exact hJ17 _ _ _ _ _ h hp hl
      · refine lv_iload_n C.1 C.2.1 dX8_whose_33 rfl (lv_at hl 1 rfl) ?_
        refine r_iconst C dX8_whose_34 ?_
        refine lv_iload_n C.1 C.2.1 dX8_whose_35 rfl (lv_at hl 2 rfl) ?_
        refine r_ishl C dX8_whose_36 ?_
        refine r_ior C dX8_whose_37 ?_
        refine r_istore_n (lv' := fun x20 => [(1, .int (gI x20)), (0, .ref (V.2.2 0)), (2, .int (gI x15))]) C h dX8_whose_38 rfl hl (by decide) (fun _ => rfl) (fun x20 ls h hl => ?_)
        exact hJ17 _ _ _ _ _ h hp (lv_sub hl [1, 0, 2] rfl)
set_option maxRecDepth 100000 in
set_option maxHeartbeats 4000000 in
theorem b_X8_whose (C : g_CX xG V p R s m args meth c cX8_whose 3 (some .int) RX8 4 100) {res : Int × g_M} (hR : g_RetI xG V p l e R s m args below meth c Q cX8_whose .int res.1 res.2)  {M : g_M} {H : Heap} {locs : List Loc} {ls : Array Slot} (h : m_X8_whose M = some res) (hp : g_PT xG V M s H locs) (hl : lv_has ls 3 [(0, .ref (V.2.2 0))]) : W p l e R s m args below meth c H locs 0 0 Q (F0 m 0 ls []) := by
  unfold m_X8_whose at h
  refine lv_aload_n C.1 C.2.1 dX8_whose_0 rfl (lv_at hl 0 rfl) ?_
  refine r_getr (t := 31) C hp xk_0 xs_0 xc_8 xin_8 (j := 3) (by decide) rfl gw_434 rfl dX8_whose_1 ?_
  obtain ⟨M11, hr, h⟩ := bd_of h
  refine r_callVV (As := []) (rest := []) C hl.1 hp (c_X3_lookAround l C.2.2.2.2.2.2.2.2.2.2.2 hr) gw_953 gw_829 gw_830 xk_31 xs_31 xc_3 cal_X3_lookAround rfl rfl (Nat.le_of_ble_eq_true rfl) ⟨Nat.le_of_ble_eq_true rfl, Nat.le_of_ble_eq_true rfl⟩ dX8_whose_4 (fun H locs hp => ?_)
  refine r_iconst C dX8_whose_7 ?_
  refine r_istore_n (lv' := fun x12 => [(1, .int (gI x12)), (0, .ref (V.2.2 0))]) C h dX8_whose_8 rfl hl (by decide) (fun _ => rfl) (fun x12 ls h hl => ?_)
  refine r_iconst C dX8_whose_9 ?_
  refine r_istore_n (lv' := fun x13 => [(2, .int (gI x13)), (1, .int (gI x12)), (0, .ref (V.2.2 0))]) C h dX8_whose_10 rfl hl (by decide) (fun _ => rfl) (fun x13 ls h hl => ?_)
  refine w_X8_whose_L11 C hR _ _ _ _ H locs ls h hp (lv_sub hl [2, 1, 0] rfl)
theorem c_X8_whose (l : Launch) {V : g_V} (hok : g_ok xG V)  {M : g_M} {x : Int} {M2 : g_M} (h : m_X8_whose M = some (x, M2)) : MetI xG V l yX8_whose cX8_whose 3 (some .int) 4 100 [.ref (V.2.2 0)] M x M2 :=
  g_metI hok cal_X8_whose.2.2.2 rfl (Nat.le_of_ble_eq_true rfl) (@fun p e R s m args below meth c Q ls C hR hp hl => b_X8_whose C hR h hp hl)
set_option maxRecDepth 100000 in
set_option maxHeartbeats 4000000 in
theorem w_X8_gladdest_L4 (C : g_CX xG V p R s m args meth c cX8_gladdest 3 (some .int) RX8 0 0) {res : Int} {M15 : g_M} (hR : g_RetI xG V p l e R s m args below meth c Q cX8_gladdest .int res M15)    : ∀ (f : Nat) (x13 : Int) (x14 : Int) (H : Heap) (locs : List Loc) (ls : Array Slot), m_X8_gladdest_L4 M15  f x13 x14 = some res → g_PT xG V M15 s H locs → lv_has ls 3 [(0, .ref (V.2.2 0)), (1, .int (gI x13)), (2, .int (gI x14))] → W p l e R s m args below meth c H locs 0 0 Q (F0 m 4 ls []) := by
  intro f
  induction f with
  | zero => intro x13 x14 H locs ls h hp hl; cases h
  | succ f ih =>
    intro x13 x14 H locs ls h hp hl
    rw [m_X8_gladdest_L4] at h
    refine lv_iload_n C.1 C.2.1 dX8_gladdest_4 rfl (lv_at hl 2 rfl) ?_
    refine lv_aload_n C.1 C.2.1 dX8_gladdest_5 rfl (lv_at hl 0 rfl) ?_
    refine r_getr (t := 1) C hp xk_0 xs_0 xc_8 xin_8 (j := 0) (by decide) rfl gw_431 rfl dX8_gladdest_6 ?_
    refine r_geti (t := 0) C hp xk_1 xs_1 xc_1 xin_1 (j := 7) (by decide) rfl gw_167 rfl dX8_gladdest_9 ?_
    refine r_icmp_ge (tgt := 55) C h dX8_gladdest_12 (by decide) (fun h => ?_) (fun h => ?_)
    · refine lv_iload_n C.1 C.2.1 dX8_gladdest_55 rfl (lv_at hl 1 rfl) ?_
      cases h
      exact hR _ _ _ _ dX8_gladdest_56 rfl hp
    · refine r_jn (P := fun J => ∀ (x18 : Int) (H : Heap) (locs : List Loc) (ls : Array Slot), J x18 = some res → g_PT xG V M15 s H locs → lv_has ls 3 [(0, .ref (V.2.2 0)), (1, .int (gI x18)), (2, .int (gI x14))] → W p l e R s m args below meth c H locs 0 0 Q (F0 m 49 ls [])) h ?_ (fun J17 hJ17 h => ?_)
      · intro x18 H locs ls h hp hl
        refine r_iinc (lv' := fun x20 => [(2, .int (gI x20)), (0, .ref (V.2.2 0)), (1, .int (gI x18))]) C h dX8_gladdest_49 hl (j := 2) rfl (by decide) (fun _ => rfl) (fun x20 ls h hl => ?_)
        refine r_goto (tgt := 4) C dX8_gladdest_52 (by decide) ?_
        exact ih _ _ _ _ _ h hp (lv_sub hl [1, 2, 0] rfl)
      refine r_jn (P := fun J => ∀  (H : Heap) (locs : List Loc) (ls : Array Slot), J  = some res → g_PT xG V M15 s H locs → lv_has ls 3 [(0, .ref (V.2.2 0)), (2, .int (gI x14))] → W p l e R s m args below meth c H locs 0 0 Q (F0 m 47 ls [])) h ?_ (fun J16 hJ16 h => ?_)
      · intro  H locs ls h hp hl
        refine lv_iload_n C.1 C.2.1 dX8_gladdest_47 rfl (lv_at hl 1 rfl) ?_
        refine r_istore_n (lv' := fun x19 => [(1, .int (gI x19)), (0, .ref (V.2.2 0)), (2, .int (gI x14))]) C h dX8_gladdest_48 rfl hl (by decide) (fun _ => rfl) (fun x19 ls h hl => ?_)
        exact hJ17 _ _ _ _ h hp (lv_sub hl [1, 0, 2] rfl)
      refine lv_iload_n C.1 C.2.1 dX8_gladdest_15 rfl (lv_at hl 1 rfl) ?_
      refine r_iconst C dX8_gladdest_16 ?_
      refine r_icmp_eq (tgt := 47) C h dX8_gladdest_17 (by decide) (fun h => ?_) (fun h => ?_)
      · exact hJ16  _ _ _ h hp (lv_sub hl [0, 2] rfl)
      · refine lv_aload_n C.1 C.2.1 dX8_gladdest_20 rfl (lv_at hl 0 rfl) ?_
        refine r_getr (t := 1) C hp xk_0 xs_0 xc_8 xin_8 (j := 0) (by decide) rfl gw_431 rfl dX8_gladdest_21 ?_
        refine r_getr (t := 2) C hp xk_1 xs_1 xc_1 xin_1 (j := 0) (by decide) rfl gw_147 rfl dX8_gladdest_24 ?_
        refine r_bipush C dX8_gladdest_27 (by decide +kernel) ?_
        refine lv_iload_n C.1 C.2.1 dX8_gladdest_29 rfl (lv_at hl 2 rfl) ?_
        refine r_iadd C dX8_gladdest_30 ?_
        refine r_iald C hp h xk_2 xs_2 dX8_gladdest_31 (fun h => ?_)
        refine lv_aload_n C.1 C.2.1 dX8_gladdest_32 rfl (lv_at hl 0 rfl) ?_
        refine r_getr (t := 1) C hp xk_0 xs_0 xc_8 xin_8 (j := 0) (by decide) rfl gw_431 rfl dX8_gladdest_33 ?_
        refine r_getr (t := 2) C hp xk_1 xs_1 xc_1 xin_1 (j := 0) (by decide) rfl gw_147 rfl dX8_gladdest_36 ?_
        refine r_bipush C dX8_gladdest_39 (by decide +kernel) ?_
        refine lv_iload_n C.1 C.2.1 dX8_gladdest_41 rfl (lv_at hl 1 rfl) ?_
        refine r_iadd C dX8_gladdest_42 ?_
        refine r_iald C hp h xk_2 xs_2 dX8_gladdest_43 (fun h => ?_)
        refine r_icmp_le (tgt := 49) C h dX8_gladdest_44 (by decide) (fun h => ?_) (fun h => ?_)
        · exact hJ17 _ _ _ _ h hp hl
        · exact hJ16  _ _ _ h hp (lv_sub hl [0, 2] rfl)
set_option maxRecDepth 100000 in
set_option maxHeartbeats 4000000 in
theorem b_X8_gladdest (C : g_CX xG V p R s m args meth c cX8_gladdest 3 (some .int) RX8 0 0) {res : Int} {M : g_M} (hR : g_RetI xG V p l e R s m args below meth c Q cX8_gladdest .int res M)  {H : Heap} {locs : List Loc} {ls : Array Slot} (h : m_X8_gladdest M = some res) (hp : g_PT xG V M s H locs) (hl : lv_has ls 3 [(0, .ref (V.2.2 0))]) : W p l e R s m args below meth c H locs 0 0 Q (F0 m 0 ls []) := by
  unfold m_X8_gladdest at h
  refine r_iconst C dX8_gladdest_0 ?_
  refine r_istore_n (lv' := fun x11 => [(1, .int (gI x11)), (0, .ref (V.2.2 0))]) C h dX8_gladdest_1 rfl hl (by decide) (fun _ => rfl) (fun x11 ls h hl => ?_)
  refine r_iconst C dX8_gladdest_2 ?_
  refine r_istore_n (lv' := fun x12 => [(2, .int (gI x12)), (1, .int (gI x11)), (0, .ref (V.2.2 0))]) C h dX8_gladdest_3 rfl hl (by decide) (fun _ => rfl) (fun x12 ls h hl => ?_)
  refine w_X8_gladdest_L4 C hR _ _ _ H locs ls h hp (lv_sub hl [2, 1, 0] rfl)
theorem c_X8_gladdest (l : Launch) {V : g_V} (hok : g_ok xG V)  {M : g_M} {x : Int} (h : m_X8_gladdest M = some x) : MetI xG V l yX8_gladdest cX8_gladdest 3 (some .int) 0 0 [.ref (V.2.2 0)] M x M :=
  g_metI hok cal_X8_gladdest.2.2.2 rfl (Nat.le_of_ble_eq_true rfl) (@fun p e R s m args below meth c Q ls C hR hp hl => b_X8_gladdest C hR h hp hl)
set_option maxRecDepth 100000 in
set_option maxHeartbeats 4000000 in
theorem w_X8_often_L4 (C : g_CX xG V p R s m args meth c cX8_often 3 (some .int) RX8 0 0) {res : Int} {M15 : g_M} (hR : g_RetI xG V p l e R s m args below meth c Q cX8_often .int res M15)    : ∀ (f : Nat) (x13 : Int) (x14 : Int) (H : Heap) (locs : List Loc) (ls : Array Slot), m_X8_often_L4 M15  f x13 x14 = some res → g_PT xG V M15 s H locs → lv_has ls 3 [(0, .ref (V.2.2 0)), (1, .int (gI x13)), (2, .int (gI x14))] → W p l e R s m args below meth c H locs 0 0 Q (F0 m 4 ls []) := by
  intro f
  induction f with
  | zero => intro x13 x14 H locs ls h hp hl; cases h
  | succ f ih =>
    intro x13 x14 H locs ls h hp hl
    rw [m_X8_often_L4] at h
    refine lv_iload_n C.1 C.2.1 dX8_often_4 rfl (lv_at hl 2 rfl) ?_
    refine r_bipush C dX8_often_5 (by decide +kernel) ?_
    refine r_icmp_ge (tgt := 45) C h dX8_often_7 (by decide) (fun h => ?_) (fun h => ?_)
    · refine lv_iload_n C.1 C.2.1 dX8_often_45 rfl (lv_at hl 1 rfl) ?_
      cases h
      exact hR _ _ _ _ dX8_often_46 rfl hp
    · refine r_jn (P := fun J => ∀ (x18 : Int) (H : Heap) (locs : List Loc) (ls : Array Slot), J x18 = some res → g_PT xG V M15 s H locs → lv_has ls 3 [(0, .ref (V.2.2 0)), (1, .int (gI x18)), (2, .int (gI x14))] → W p l e R s m args below meth c H locs 0 0 Q (F0 m 39 ls [])) h ?_ (fun J16 hJ16 h => ?_)
      · intro x18 H locs ls h hp hl
        refine r_iinc (lv' := fun x19 => [(2, .int (gI x19)), (0, .ref (V.2.2 0)), (1, .int (gI x18))]) C h dX8_often_39 hl (j := 2) rfl (by decide) (fun _ => rfl) (fun x19 ls h hl => ?_)
        refine r_goto (tgt := 4) C dX8_often_42 (by decide) ?_
        exact ih _ _ _ _ _ h hp (lv_sub hl [1, 2, 0] rfl)
      refine lv_aload_n C.1 C.2.1 dX8_often_10 rfl (lv_at hl 0 rfl) ?_
      refine r_getr (t := 1) C hp xk_0 xs_0 xc_8 xin_8 (j := 0) (by decide) rfl gw_431 rfl dX8_often_11 ?_
      refine r_getr (t := 2) C hp xk_1 xs_1 xc_1 xin_1 (j := 0) (by decide) rfl gw_147 rfl dX8_often_14 ?_
      refine r_bipush C dX8_often_17 (by decide +kernel) ?_
      refine lv_iload_n C.1 C.2.1 dX8_often_19 rfl (lv_at hl 2 rfl) ?_
      refine r_iadd C dX8_often_20 ?_
      refine r_iald C hp h xk_2 xs_2 dX8_often_21 (fun h => ?_)
      refine lv_aload_n C.1 C.2.1 dX8_often_22 rfl (lv_at hl 0 rfl) ?_
      refine r_getr (t := 1) C hp xk_0 xs_0 xc_8 xin_8 (j := 0) (by decide) rfl gw_431 rfl dX8_often_23 ?_
      refine r_getr (t := 2) C hp xk_1 xs_1 xc_1 xin_1 (j := 0) (by decide) rfl gw_147 rfl dX8_often_26 ?_
      refine r_bipush C dX8_often_29 (by decide +kernel) ?_
      refine lv_iload_n C.1 C.2.1 dX8_often_31 rfl (lv_at hl 1 rfl) ?_
      refine r_iadd C dX8_often_32 ?_
      refine r_iald C hp h xk_2 xs_2 dX8_often_33 (fun h => ?_)
      refine r_icmp_le (tgt := 39) C h dX8_often_34 (by decide) (fun h => ?_) (fun h => ?_)
      · exact hJ16 _ _ _ _ h hp hl
      · refine lv_iload_n C.1 C.2.1 dX8_often_37 rfl (lv_at hl 2 rfl) ?_
        refine r_istore_n (lv' := fun x17 => [(1, .int (gI x17)), (0, .ref (V.2.2 0)), (2, .int (gI x14))]) C h dX8_often_38 rfl hl (by decide) (fun _ => rfl) (fun x17 ls h hl => ?_)
        exact hJ16 _ _ _ _ h hp (lv_sub hl [1, 0, 2] rfl)
set_option maxRecDepth 100000 in
set_option maxHeartbeats 4000000 in
theorem b_X8_often (C : g_CX xG V p R s m args meth c cX8_often 3 (some .int) RX8 0 0) {res : Int} {M : g_M} (hR : g_RetI xG V p l e R s m args below meth c Q cX8_often .int res M)  {H : Heap} {locs : List Loc} {ls : Array Slot} (h : m_X8_often M = some res) (hp : g_PT xG V M s H locs) (hl : lv_has ls 3 [(0, .ref (V.2.2 0))]) : W p l e R s m args below meth c H locs 0 0 Q (F0 m 0 ls []) := by
  unfold m_X8_often at h
  refine r_iconst C dX8_often_0 ?_
  refine r_istore_n (lv' := fun x11 => [(1, .int (gI x11)), (0, .ref (V.2.2 0))]) C h dX8_often_1 rfl hl (by decide) (fun _ => rfl) (fun x11 ls h hl => ?_)
  refine r_iconst C dX8_often_2 ?_
  refine r_istore_n (lv' := fun x12 => [(2, .int (gI x12)), (1, .int (gI x11)), (0, .ref (V.2.2 0))]) C h dX8_often_3 rfl hl (by decide) (fun _ => rfl) (fun x12 ls h hl => ?_)
  refine w_X8_often_L4 C hR _ _ _ H locs ls h hp (lv_sub hl [2, 1, 0] rfl)
theorem c_X8_often (l : Launch) {V : g_V} (hok : g_ok xG V)  {M : g_M} {x : Int} (h : m_X8_often M = some x) : MetI xG V l yX8_often cX8_often 3 (some .int) 0 0 [.ref (V.2.2 0)] M x M :=
  g_metI hok cal_X8_often.2.2.2 rfl (Nat.le_of_ble_eq_true rfl) (@fun p e R s m args below meth c Q ls C hR hp hl => b_X8_often C hR h hp hl)
set_option maxRecDepth 100000 in
set_option maxHeartbeats 4000000 in
theorem w_X8_changed_L4 (C : g_CX xG V p R s m args meth c cX8_changed 3 (some .int) RX8 1 21) {res : Int} {M15 : g_M} (hR : g_RetI xG V p l e R s m args below meth c Q cX8_changed .int res M15)    : ∀ (f : Nat) (x13 : Int) (x14 : Int) (H : Heap) (locs : List Loc) (ls : Array Slot), m_X8_changed_L4 M15  f x13 x14 = some res → g_PT xG V M15 s H locs → lv_has ls 3 [(0, .ref (V.2.2 0)), (1, .int (gI x13)), (2, .int (gI x14))] → W p l e R s m args below meth c H locs 0 0 Q (F0 m 4 ls []) := by
  intro f
  induction f with
  | zero => intro x13 x14 H locs ls h hp hl; cases h
  | succ f ih =>
    intro x13 x14 H locs ls h hp hl
    rw [m_X8_changed_L4] at h
    refine lv_iload_n C.1 C.2.1 dX8_changed_4 rfl (lv_at hl 2 rfl) ?_
    refine r_bipush C dX8_changed_5 (by decide +kernel) ?_
    refine r_icmp_ge (tgt := 33) C h dX8_changed_7 (by decide) (fun h => ?_) (fun h => ?_)
    · refine lv_iload_n C.1 C.2.1 dX8_changed_33 rfl (lv_at hl 1 rfl) ?_
      cases h
      exact hR _ _ _ _ dX8_changed_34 rfl hp
    · refine r_jn (P := fun J => ∀ (x19 : Int) (H : Heap) (locs : List Loc) (ls : Array Slot), J x19 = some res → g_PT xG V M15 s H locs → lv_has ls 3 [(0, .ref (V.2.2 0)), (1, .int (gI x19)), (2, .int (gI x14))] → W p l e R s m args below meth c H locs 0 0 Q (F0 m 27 ls [])) h ?_ (fun J16 hJ16 h => ?_)
      · intro x19 H locs ls h hp hl
        refine r_iinc (lv' := fun x20 => [(2, .int (gI x20)), (0, .ref (V.2.2 0)), (1, .int (gI x19))]) C h dX8_changed_27 hl (j := 2) rfl (by decide) (fun _ => rfl) (fun x20 ls h hl => ?_)
        refine r_goto (tgt := 4) C dX8_changed_30 (by decide) ?_
        exact ih _ _ _ _ _ h hp (lv_sub hl [1, 2, 0] rfl)
      refine lv_aload_n C.1 C.2.1 dX8_changed_10 rfl (lv_at hl 0 rfl) ?_
      refine r_getr (t := 65) C hp xk_0 xs_0 xc_8 xin_8 (j := 4) (by decide) rfl gw_435 rfl dX8_changed_11 ?_
      refine lv_iload_n C.1 C.2.1 dX8_changed_14 rfl (lv_at hl 2 rfl) ?_
      obtain ⟨x17, hr, h⟩ := bd_of h
      refine r_callVI (As := [.int (gI x14)]) (rest := []) C hl.1 hp (c_X2_canMend l C.2.2.2.2.2.2.2.2.2.2.2 hr) gw_803 gw_804 gw_805 xk_65 xs_65 xc_2 cal_X2_canMend rfl rfl (Nat.le_of_ble_eq_true rfl) ⟨Nat.le_of_ble_eq_true rfl, Nat.le_of_ble_eq_true rfl⟩ dX8_changed_15 (fun H locs hp => ?_)
      refine r_if_eq (tgt := 27) C h dX8_changed_18 (by decide) (fun h => ?_) (fun h => ?_)
      · exact hJ16 _ _ _ _ h hp hl
      · refine lv_iload_n C.1 C.2.1 dX8_changed_21 rfl (lv_at hl 1 rfl) ?_
        refine r_iconst C dX8_changed_22 ?_
        refine lv_iload_n C.1 C.2.1 dX8_changed_23 rfl (lv_at hl 2 rfl) ?_
        refine r_ishl C dX8_changed_24 ?_
        refine r_ior C dX8_changed_25 ?_
        refine r_istore_n (lv' := fun x18 => [(1, .int (gI x18)), (0, .ref (V.2.2 0)), (2, .int (gI x14))]) C h dX8_changed_26 rfl hl (by decide) (fun _ => rfl) (fun x18 ls h hl => ?_)
        exact hJ16 _ _ _ _ h hp (lv_sub hl [1, 0, 2] rfl)
set_option maxRecDepth 100000 in
set_option maxHeartbeats 4000000 in
theorem b_X8_changed (C : g_CX xG V p R s m args meth c cX8_changed 3 (some .int) RX8 1 21) {res : Int} {M : g_M} (hR : g_RetI xG V p l e R s m args below meth c Q cX8_changed .int res M)  {H : Heap} {locs : List Loc} {ls : Array Slot} (h : m_X8_changed M = some res) (hp : g_PT xG V M s H locs) (hl : lv_has ls 3 [(0, .ref (V.2.2 0))]) : W p l e R s m args below meth c H locs 0 0 Q (F0 m 0 ls []) := by
  unfold m_X8_changed at h
  refine r_iconst C dX8_changed_0 ?_
  refine r_istore_n (lv' := fun x11 => [(1, .int (gI x11)), (0, .ref (V.2.2 0))]) C h dX8_changed_1 rfl hl (by decide) (fun _ => rfl) (fun x11 ls h hl => ?_)
  refine r_iconst C dX8_changed_2 ?_
  refine r_istore_n (lv' := fun x12 => [(2, .int (gI x12)), (1, .int (gI x11)), (0, .ref (V.2.2 0))]) C h dX8_changed_3 rfl hl (by decide) (fun _ => rfl) (fun x12 ls h hl => ?_)
  refine w_X8_changed_L4 C hR _ _ _ H locs ls h hp (lv_sub hl [2, 1, 0] rfl)
theorem c_X8_changed (l : Launch) {V : g_V} (hok : g_ok xG V)  {M : g_M} {x : Int} (h : m_X8_changed M = some x) : MetI xG V l yX8_changed cX8_changed 3 (some .int) 1 21 [.ref (V.2.2 0)] M x M :=
  g_metI hok cal_X8_changed.2.2.2 rfl (Nat.le_of_ble_eq_true rfl) (@fun p e R s m args below meth c Q ls C hR hp hl => b_X8_changed C hR h hp hl)
set_option maxRecDepth 100000 in
set_option maxHeartbeats 4000000 in
theorem b_X8_front (C : g_CX xG V p R s m args meth c cX8_front 1 (some .int) RX8 3 65) {res : Int} {M : g_M} (hR : g_RetI xG V p l e R s m args below meth c Q cX8_front .int res M)  {H : Heap} {locs : List Loc} {ls : Array Slot} (h : m_X8_front M = some res) (hp : g_PT xG V M s H locs) (hl : lv_has ls 1 [(0, .ref (V.2.2 0))]) : W p l e R s m args below meth c H locs 0 0 Q (F0 m 0 ls []) := by
  unfold m_X8_front at h
  refine lv_aload_n C.1 C.2.1 dX8_front_0 rfl (lv_at hl 0 rfl) ?_
  refine r_getr (t := 1) C hp xk_0 xs_0 xc_8 xin_8 (j := 0) (by decide) rfl gw_431 rfl dX8_front_1 ?_
  obtain ⟨x11, hr, h⟩ := bd_of h
  refine r_callVI (As := []) (rest := []) C hl.1 hp (c_X1_plainTogether l C.2.2.2.2.2.2.2.2.2.2.2 hr) gw_1226 gw_848 gw_849 xk_1 xs_1 xc_1 cal_X1_plainTogether rfl rfl (Nat.le_of_ble_eq_true rfl) ⟨Nat.le_of_ble_eq_true rfl, Nat.le_of_ble_eq_true rfl⟩ dX8_front_4 (fun H locs hp => ?_)
  cases h
  exact hR _ _ _ _ dX8_front_7 rfl hp
theorem c_X8_front (l : Launch) {V : g_V} (hok : g_ok xG V)  {M : g_M} {x : Int} (h : m_X8_front M = some x) : MetI xG V l yX8_front cX8_front 1 (some .int) 3 65 [.ref (V.2.2 0)] M x M :=
  g_metI hok cal_X8_front.2.2.2 rfl (Nat.le_of_ble_eq_true rfl) (@fun p e R s m args below meth c Q ls C hR hp hl => b_X8_front C hR h hp hl)
set_option maxRecDepth 100000 in
set_option maxHeartbeats 4000000 in
theorem w_X8_ledger_L13 (C : g_CX xG V p R s m args meth c cX8_ledger 5 (some .int) RX8 2 33) {res : Int} {M19 : g_M} (hR : g_RetI xG V p l e R s m args below meth c Q cX8_ledger .int res M19) (x15 : Int) (x16 : Int) (k20 : Int → Option (Int)) (hk20 : ∀ (x23 : Int) (H : Heap) (locs : List Loc) (ls : Array Slot), k20 x23 = some res → g_PT xG V M19 s H locs → lv_has ls 5 [(1, .int (gI x15)), (2, .int (gI x16)), (3, .int (gI x23))] → W p l e R s m args below meth c H locs 0 0 Q (F0 m 41 ls [])) : ∀ (f : Nat) (x17 : Int) (x18 : Int) (H : Heap) (locs : List Loc) (ls : Array Slot), m_X8_ledger_L13 x15 x16 M19 k20 f x17 x18 = some res → g_PT xG V M19 s H locs → lv_has ls 5 [(0, .ref (V.2.2 0)), (1, .int (gI x15)), (2, .int (gI x16)), (3, .int (gI x17)), (4, .int (gI x18))] → W p l e R s m args below meth c H locs 0 0 Q (F0 m 13 ls []) := by
  intro f
  induction f with
  | zero => intro x17 x18 H locs ls h hp hl; cases h
  | succ f ih =>
    intro x17 x18 H locs ls h hp hl
    rw [m_X8_ledger_L13] at h
    refine lv_iload C.1 C.2.1 dX8_ledger_13 (lv_at hl 4 rfl) ?_
    refine lv_iload_n C.1 C.2.1 dX8_ledger_15 rfl (lv_at hl 2 rfl) ?_
    refine r_icmp_ge (tgt := 41) C h dX8_ledger_16 (by decide) (fun h => ?_) (fun h => ?_)
    · exact hk20 _ _ _ _ h hp (lv_sub hl [1, 2, 3] rfl)
    · refine lv_iload_n C.1 C.2.1 dX8_ledger_19 rfl (lv_at hl 3 rfl) ?_
      refine lv_aload_n C.1 C.2.1 dX8_ledger_20 rfl (lv_at hl 0 rfl) ?_
      refine r_getr (t := 1) C hp xk_0 xs_0 xc_8 xin_8 (j := 0) (by decide) rfl gw_431 rfl dX8_ledger_21 ?_
      refine r_getr (t := 2) C hp xk_1 xs_1 xc_1 xin_1 (j := 0) (by decide) rfl gw_147 rfl dX8_ledger_24 ?_
      refine r_bipush C dX8_ledger_27 (by decide +kernel) ?_
      refine lv_iload C.1 C.2.1 dX8_ledger_29 (lv_at hl 4 rfl) ?_
      refine r_iadd C dX8_ledger_31 ?_
      refine r_iald C hp h xk_2 xs_2 dX8_ledger_32 (fun h => ?_)
      refine r_iadd C dX8_ledger_33 ?_
      refine r_istore_n (lv' := fun x21 => [(3, .int (gI x21)), (0, .ref (V.2.2 0)), (1, .int (gI x15)), (2, .int (gI x16)), (4, .int (gI x18))]) C h dX8_ledger_34 rfl hl (by decide) (fun _ => rfl) (fun x21 ls h hl => ?_)
      refine r_iinc (lv' := fun x22 => [(4, .int (gI x22)), (3, .int (gI x21)), (0, .ref (V.2.2 0)), (1, .int (gI x15)), (2, .int (gI x16))]) C h dX8_ledger_35 hl (j := 4) rfl (by decide) (fun _ => rfl) (fun x22 ls h hl => ?_)
      refine r_goto (tgt := 13) C dX8_ledger_38 (by decide) ?_
      exact ih _ _ _ _ _ h hp (lv_sub hl [2, 3, 4, 1, 0] rfl)
set_option maxRecDepth 100000 in
set_option maxHeartbeats 4000000 in
theorem b_X8_ledger (C : g_CX xG V p R s m args meth c cX8_ledger 5 (some .int) RX8 2 33) {res : Int} {M : g_M} (hR : g_RetI xG V p l e R s m args below meth c Q cX8_ledger .int res M) {a1 : Int} {H : Heap} {locs : List Loc} {ls : Array Slot} (h : m_X8_ledger a1 M = some res) (hp : g_PT xG V M s H locs) (hl : lv_has ls 5 [(0, .ref (V.2.2 0)), (1, .int (gI a1))]) : W p l e R s m args below meth c H locs 0 0 Q (F0 m 0 ls []) := by
  unfold m_X8_ledger at h
  refine lv_aload_n C.1 C.2.1 dX8_ledger_0 rfl (lv_at hl 0 rfl) ?_
  refine r_getr (t := 1) C hp xk_0 xs_0 xc_8 xin_8 (j := 0) (by decide) rfl gw_431 rfl dX8_ledger_1 ?_
  obtain ⟨x11, hr, h⟩ := bd_of h
  refine r_callVI (As := []) (rest := []) C hl.1 hp (c_X1_written l C.2.2.2.2.2.2.2.2.2.2.2 hr) gw_970 gw_971 gw_972 xk_1 xs_1 xc_1 cal_X1_written rfl rfl (Nat.le_of_ble_eq_true rfl) ⟨Nat.le_of_ble_eq_true rfl, Nat.le_of_ble_eq_true rfl⟩ dX8_ledger_4 (fun H locs hp => ?_)
  refine r_istore_n (lv' := fun x12 => [(2, .int (gI x12)), (0, .ref (V.2.2 0)), (1, .int (gI a1))]) C h dX8_ledger_7 rfl hl (by decide) (fun _ => rfl) (fun x12 ls h hl => ?_)
  refine r_iconst C dX8_ledger_8 ?_
  refine r_istore_n (lv' := fun x13 => [(3, .int (gI x13)), (2, .int (gI x12)), (0, .ref (V.2.2 0)), (1, .int (gI a1))]) C h dX8_ledger_9 rfl hl (by decide) (fun _ => rfl) (fun x13 ls h hl => ?_)
  refine r_iconst C dX8_ledger_10 ?_
  refine r_istore (lv' := fun x14 => [(4, .int (gI x14)), (3, .int (gI x13)), (2, .int (gI x12)), (0, .ref (V.2.2 0)), (1, .int (gI a1))]) C h dX8_ledger_11 hl (by decide) (fun _ => rfl) (fun x14 ls h hl => ?_)
  refine w_X8_ledger_L13 C hR _ _ _ ?_ _ _ _ H locs ls h hp (lv_sub hl [3, 4, 2, 1, 0] rfl)
  · intro x24 H locs ls h hp hl
    refine lv_iload_n C.1 C.2.1 dX8_ledger_41 rfl (lv_at hl 0 rfl) ?_
    refine r_if_eq (tgt := 49) C h dX8_ledger_42 (by decide) (fun h => ?_) (fun h => ?_)
    · refine lv_iload_n C.1 C.2.1 dX8_ledger_49 rfl (lv_at hl 1 rfl) ?_
      refine lv_iload_n C.1 C.2.1 dX8_ledger_50 rfl (lv_at hl 2 rfl) ?_
      refine r_isub C dX8_ledger_51 ?_
      cases h
      exact hR _ _ _ _ dX8_ledger_52 rfl hp
    · refine lv_iload_n C.1 C.2.1 dX8_ledger_45 rfl (lv_at hl 2 rfl) ?_
      refine r_goto (tgt := 52) C dX8_ledger_46 (by decide) ?_
      cases h
      exact hR _ _ _ _ dX8_ledger_52 rfl hp
theorem c_X8_ledger (l : Launch) {V : g_V} (hok : g_ok xG V) {a1 : Int} {M : g_M} {x : Int} (h : m_X8_ledger a1 M = some x) : MetI xG V l yX8_ledger cX8_ledger 5 (some .int) 2 33 [.ref (V.2.2 0), .int (gI a1)] M x M :=
  g_metI hok cal_X8_ledger.2.2.2 rfl (Nat.le_of_ble_eq_true rfl) (@fun p e R s m args below meth c Q ls C hR hp hl => b_X8_ledger C hR h hp hl)
set_option maxRecDepth 100000 in
set_option maxHeartbeats 4000000 in
theorem b_X8_image (C : g_CX xG V p R s m args meth c cX8_image 1 (some .int) RX8 2 61) {res : Int × g_M} (hR : g_RetI xG V p l e R s m args below meth c Q cX8_image .int res.1 res.2)  {M : g_M} {H : Heap} {locs : List Loc} {ls : Array Slot} (h : m_X8_image M = some res) (hp : g_PT xG V M s H locs) (hl : lv_has ls 1 [(0, .ref (V.2.2 0))]) : W p l e R s m args below meth c H locs 0 0 Q (F0 m 0 ls []) := by
  unfold m_X8_image at h
  refine lv_aload_n C.1 C.2.1 dX8_image_0 rfl (lv_at hl 0 rfl) ?_
  refine r_getr (t := 12) C hp xk_0 xs_0 xc_8 xin_8 (j := 1) (by decide) rfl gw_432 rfl dX8_image_1 ?_
  refine lv_aload_n C.1 C.2.1 dX8_image_4 rfl (lv_at hl 0 rfl) ?_
  refine r_getr (t := 1) C hp xk_0 xs_0 xc_8 xin_8 (j := 0) (by decide) rfl gw_431 rfl dX8_image_5 ?_
  obtain ⟨M11, hr, h⟩ := bd_of h
  refine r_callVV (As := [.ref (V.2.2 1)]) (rest := []) C hl.1 hp (c_X1_copy_12_1 l C.2.2.2.2.2.2.2.2.2.2.2 hr) gw_1235 gw_1236 gw_1237 xk_12 xs_12 xc_1 cal_X1_copy rfl rfl (Nat.le_of_ble_eq_true rfl) ⟨Nat.le_of_ble_eq_true rfl, Nat.le_of_ble_eq_true rfl⟩ dX8_image_8 (fun H locs hp => ?_)
  refine lv_aload_n C.1 C.2.1 dX8_image_11 rfl (lv_at hl 0 rfl) ?_
  refine r_getr (t := 1) C hp xk_0 xs_0 xc_8 xin_8 (j := 0) (by decide) rfl gw_431 rfl dX8_image_12 ?_
  refine r_getr (t := 2) C hp xk_1 xs_1 xc_1 xin_1 (j := 0) (by decide) rfl gw_147 rfl dX8_image_15 ?_
  refine r_bipush C dX8_image_18 (by decide +kernel) ?_
  refine r_iald C hp h xk_2 xs_2 dX8_image_20 (fun h => ?_)
  cases h
  exact hR _ _ _ _ dX8_image_21 rfl hp
theorem c_X8_image (l : Launch) {V : g_V} (hok : g_ok xG V)  {M : g_M} {x : Int} {M2 : g_M} (h : m_X8_image M = some (x, M2)) : MetI xG V l yX8_image cX8_image 1 (some .int) 2 61 [.ref (V.2.2 0)] M x M2 :=
  g_metI hok cal_X8_image.2.2.2 rfl (Nat.le_of_ble_eq_true rfl) (@fun p e R s m args below meth c Q ls C hR hp hl => b_X8_image C hR h hp hl)
set_option maxRecDepth 100000 in
set_option maxHeartbeats 4000000 in
theorem b_X8_back (C : g_CX xG V p R s m args meth c cX8_back 1 (some .int) RX8 2 61) {res : Int × g_M} (hR : g_RetI xG V p l e R s m args below meth c Q cX8_back .int res.1 res.2)  {M : g_M} {H : Heap} {locs : List Loc} {ls : Array Slot} (h : m_X8_back M = some res) (hp : g_PT xG V M s H locs) (hl : lv_has ls 1 [(0, .ref (V.2.2 0))]) : W p l e R s m args below meth c H locs 0 0 Q (F0 m 0 ls []) := by
  unfold m_X8_back at h
  refine lv_aload_n C.1 C.2.1 dX8_back_0 rfl (lv_at hl 0 rfl) ?_
  refine r_getr (t := 1) C hp xk_0 xs_0 xc_8 xin_8 (j := 0) (by decide) rfl gw_431 rfl dX8_back_1 ?_
  refine lv_aload_n C.1 C.2.1 dX8_back_4 rfl (lv_at hl 0 rfl) ?_
  refine r_getr (t := 12) C hp xk_0 xs_0 xc_8 xin_8 (j := 1) (by decide) rfl gw_432 rfl dX8_back_5 ?_
  obtain ⟨M11, hr, h⟩ := bd_of h
  refine r_callVV (As := [.ref (V.2.2 12)]) (rest := []) C hl.1 hp (c_X1_copy_1_12 l C.2.2.2.2.2.2.2.2.2.2.2 hr) gw_1235 gw_1236 gw_1237 xk_1 xs_1 xc_1 cal_X1_copy rfl rfl (Nat.le_of_ble_eq_true rfl) ⟨Nat.le_of_ble_eq_true rfl, Nat.le_of_ble_eq_true rfl⟩ dX8_back_8 (fun H locs hp => ?_)
  refine lv_aload_n C.1 C.2.1 dX8_back_11 rfl (lv_at hl 0 rfl) ?_
  refine r_getr (t := 1) C hp xk_0 xs_0 xc_8 xin_8 (j := 0) (by decide) rfl gw_431 rfl dX8_back_12 ?_
  refine r_getr (t := 2) C hp xk_1 xs_1 xc_1 xin_1 (j := 0) (by decide) rfl gw_147 rfl dX8_back_15 ?_
  refine r_bipush C dX8_back_18 (by decide +kernel) ?_
  refine r_iald C hp h xk_2 xs_2 dX8_back_20 (fun h => ?_)
  cases h
  exact hR _ _ _ _ dX8_back_21 rfl hp
theorem c_X8_back (l : Launch) {V : g_V} (hok : g_ok xG V)  {M : g_M} {x : Int} {M2 : g_M} (h : m_X8_back M = some (x, M2)) : MetI xG V l yX8_back cX8_back 1 (some .int) 2 61 [.ref (V.2.2 0)] M x M2 :=
  g_metI hok cal_X8_back.2.2.2 rfl (Nat.le_of_ble_eq_true rfl) (@fun p e R s m args below meth c Q ls C hR hp hl => b_X8_back C hR h hp hl)
set_option maxRecDepth 100000 in
set_option maxHeartbeats 4000000 in
theorem b_X8_about (C : g_CX xG V p R s m args meth c cX8_about 2 (some .int) RX8 0 0) {res : Int} {M : g_M} (hR : g_RetI xG V p l e R s m args below meth c Q cX8_about .int res M) {a1 : Int} {H : Heap} {locs : List Loc} {ls : Array Slot} (h : m_X8_about a1 M = some res) (hp : g_PT xG V M s H locs) (hl : lv_has ls 2 [(0, .ref (V.2.2 0)), (1, .int (gI a1))]) : W p l e R s m args below meth c H locs 0 0 Q (F0 m 0 ls []) := by
  unfold m_X8_about at h
  refine lv_iload_n C.1 C.2.1 dX8_about_0 rfl (lv_at hl 1 rfl) ?_
  refine r_ite h (fun hv h => ?_) (fun hv0 h => ?_)
  · refine r_tswIn (tgt := 44) (v := 0) C hv dX8_about_1 (by decide) rfl (by decide) ?_
    refine lv_aload_n C.1 C.2.1 dX8_about_44 rfl (lv_at hl 0 rfl) ?_
    refine r_getr (t := 1) C hp xk_0 xs_0 xc_8 xin_8 (j := 0) (by decide) rfl gw_431 rfl dX8_about_45 ?_
    refine r_geti (t := 0) C hp xk_1 xs_1 xc_1 xin_1 (j := 7) (by decide) rfl gw_167 rfl dX8_about_48 ?_
    cases h
    exact hR _ _ _ _ dX8_about_51 rfl hp
  refine r_ite h (fun hv h => ?_) (fun hv1 h => ?_)
  · refine r_tswIn (tgt := 52) (v := 1) C hv dX8_about_1 (by decide) rfl (by decide) ?_
    refine lv_aload_n C.1 C.2.1 dX8_about_52 rfl (lv_at hl 0 rfl) ?_
    refine r_getr (t := 1) C hp xk_0 xs_0 xc_8 xin_8 (j := 0) (by decide) rfl gw_431 rfl dX8_about_53 ?_
    refine r_geti (t := 0) C hp xk_1 xs_1 xc_1 xin_1 (j := 8) (by decide) rfl gw_169 rfl dX8_about_56 ?_
    cases h
    exact hR _ _ _ _ dX8_about_59 rfl hp
  refine r_ite h (fun hv h => ?_) (fun hv2 h => ?_)
  · refine r_tswIn (tgt := 60) (v := 2) C hv dX8_about_1 (by decide) rfl (by decide) ?_
    refine lv_aload_n C.1 C.2.1 dX8_about_60 rfl (lv_at hl 0 rfl) ?_
    refine r_getr (t := 1) C hp xk_0 xs_0 xc_8 xin_8 (j := 0) (by decide) rfl gw_431 rfl dX8_about_61 ?_
    refine r_geti (t := 0) C hp xk_1 xs_1 xc_1 xin_1 (j := 9) (by decide) rfl gw_172 rfl dX8_about_64 ?_
    cases h
    exact hR _ _ _ _ dX8_about_67 rfl hp
  refine r_ite h (fun hv h => ?_) (fun hv3 h => ?_)
  · refine r_tswIn (tgt := 68) (v := 3) C hv dX8_about_1 (by decide) rfl (by decide) ?_
    refine lv_aload_n C.1 C.2.1 dX8_about_68 rfl (lv_at hl 0 rfl) ?_
    refine r_getr (t := 1) C hp xk_0 xs_0 xc_8 xin_8 (j := 0) (by decide) rfl gw_431 rfl dX8_about_69 ?_
    refine r_geti (t := 0) C hp xk_1 xs_1 xc_1 xin_1 (j := 3) (by decide) rfl gw_151 rfl dX8_about_72 ?_
    cases h
    exact hR _ _ _ _ dX8_about_75 rfl hp
  refine r_ite h (fun hv h => ?_) (fun hv4 h => ?_)
  · refine r_tswIn (tgt := 76) (v := 4) C hv dX8_about_1 (by decide) rfl (by decide) ?_
    refine lv_aload_n C.1 C.2.1 dX8_about_76 rfl (lv_at hl 0 rfl) ?_
    refine r_getr (t := 1) C hp xk_0 xs_0 xc_8 xin_8 (j := 0) (by decide) rfl gw_431 rfl dX8_about_77 ?_
    refine r_geti (t := 0) C hp xk_1 xs_1 xc_1 xin_1 (j := 11) (by decide) rfl gw_177 rfl dX8_about_80 ?_
    cases h
    exact hR _ _ _ _ dX8_about_83 rfl hp
  refine r_ite h (fun hv h => ?_) (fun hv5 h => ?_)
  · refine r_tswIn (tgt := 84) (v := 5) C hv dX8_about_1 (by decide) rfl (by decide) ?_
    refine lv_aload_n C.1 C.2.1 dX8_about_84 rfl (lv_at hl 0 rfl) ?_
    refine r_getr (t := 1) C hp xk_0 xs_0 xc_8 xin_8 (j := 0) (by decide) rfl gw_431 rfl dX8_about_85 ?_
    refine r_geti (t := 0) C hp xk_1 xs_1 xc_1 xin_1 (j := 17) (by decide) rfl gw_195 rfl dX8_about_88 ?_
    cases h
    exact hR _ _ _ _ dX8_about_91 rfl hp
  refine r_ite h (fun hv h => ?_) (fun hv6 h => ?_)
  · refine r_tswIn (tgt := 92) (v := 6) C hv dX8_about_1 (by decide) rfl (by decide) ?_
    refine lv_aload_n C.1 C.2.1 dX8_about_92 rfl (lv_at hl 0 rfl) ?_
    refine r_getr (t := 23) C hp xk_0 xs_0 xc_8 xin_8 (j := 2) (by decide) rfl gw_433 rfl dX8_about_93 ?_
    refine r_geti (t := 0) C hp xk_23 xs_23 xc_4 xin_4 (j := 2) (by decide) rfl gw_284 rfl dX8_about_96 ?_
    cases h
    exact hR _ _ _ _ dX8_about_99 rfl hp
  have hd : W p l e R s m args below meth c H locs 0 0 Q (F0 m 100 ls []) := by
    refine r_bipush C dX8_about_100 (by decide +kernel) ?_
    cases h
    exact hR _ _ _ _ dX8_about_102 rfl hp
  exact r_tswOut (tgt := 100) C dX8_about_1 (by omega) (by decide) hd
theorem c_X8_about (l : Launch) {V : g_V} (hok : g_ok xG V) {a1 : Int} {M : g_M} {x : Int} (h : m_X8_about a1 M = some x) : MetI xG V l yX8_about cX8_about 2 (some .int) 0 0 [.ref (V.2.2 0), .int (gI a1)] M x M :=
  g_metI hok cal_X8_about.2.2.2 rfl (Nat.le_of_ble_eq_true rfl) (@fun p e R s m args below meth c Q ls C hR hp hl => b_X8_about C hR h hp hl)
end
