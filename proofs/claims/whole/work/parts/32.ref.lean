theorem dX9_partOf_0 : decode cX9_partOf 0 = .ok (.iload_n 1, 1) := by decide +kernel
theorem dX9_partOf_1 : decode cX9_partOf 1 = .ok (.tableswitch 125 40 43 #[31, 46, 78, 103], 31) := by decide +kernel
theorem dX9_partOf_32 : decode cX9_partOf 32 = .ok (.aload_n 0, 1) := by decide +kernel
theorem dX9_partOf_33 : decode cX9_partOf 33 = .ok (.getfield 120, 3) := by decide +kernel
theorem dX9_partOf_36 : decode cX9_partOf 36 = .ok (.bipush 41, 2) := by decide +kernel
theorem dX9_partOf_38 : decode cX9_partOf 38 = .ok (.if_icmp .ne 7, 3) := by decide +kernel
theorem dX9_partOf_41 : decode cX9_partOf 41 = .ok (.iconst 0, 1) := by decide +kernel
theorem dX9_partOf_42 : decode cX9_partOf 42 = .ok (.goto 4, 3) := by decide +kernel
theorem dX9_partOf_45 : decode cX9_partOf 45 = .ok (.iconst (-1), 1) := by decide +kernel
theorem dX9_partOf_46 : decode cX9_partOf 46 = .ok (.ireturn, 1) := by decide +kernel
theorem dX9_partOf_47 : decode cX9_partOf 47 = .ok (.aload_n 0, 1) := by decide +kernel
theorem dX9_partOf_48 : decode cX9_partOf 48 = .ok (.bipush 116, 2) := by decide +kernel
theorem dX9_partOf_50 : decode cX9_partOf 50 = .ok (.bipush 104, 2) := by decide +kernel
theorem dX9_partOf_52 : decode cX9_partOf 52 = .ok (.bipush 101, 2) := by decide +kernel
theorem dX9_partOf_54 : decode cX9_partOf 54 = .ok (.bipush 110, 2) := by decide +kernel
theorem dX9_partOf_56 : decode cX9_partOf 56 = .ok (.invokestatic 150, 3) := by decide +kernel
theorem dX9_partOf_59 : decode cX9_partOf 59 = .ok (.invokevirtual 205, 3) := by decide +kernel
theorem dX9_partOf_62 : decode cX9_partOf 62 = .ok (.ifCond .eq 15, 3) := by decide +kernel
theorem dX9_partOf_65 : decode cX9_partOf 65 = .ok (.aload_n 0, 1) := by decide +kernel
theorem dX9_partOf_66 : decode cX9_partOf 66 = .ok (.invokevirtual 213, 3) := by decide +kernel
theorem dX9_partOf_69 : decode cX9_partOf 69 = .ok (.ifCond .eq 8, 3) := by decide +kernel
theorem dX9_partOf_72 : decode cX9_partOf 72 = .ok (.bipush 42, 2) := by decide +kernel
theorem dX9_partOf_74 : decode cX9_partOf 74 = .ok (.goto 4, 3) := by decide +kernel
theorem dX9_partOf_77 : decode cX9_partOf 77 = .ok (.iconst (-1), 1) := by decide +kernel
theorem dX9_partOf_78 : decode cX9_partOf 78 = .ok (.ireturn, 1) := by decide +kernel
theorem dX9_partOf_79 : decode cX9_partOf 79 = .ok (.aload_n 0, 1) := by decide +kernel
theorem dX9_partOf_80 : decode cX9_partOf 80 = .ok (.bipush 101, 2) := by decide +kernel
theorem dX9_partOf_82 : decode cX9_partOf 82 = .ok (.bipush 108, 2) := by decide +kernel
theorem dX9_partOf_84 : decode cX9_partOf 84 = .ok (.bipush 115, 2) := by decide +kernel
theorem dX9_partOf_86 : decode cX9_partOf 86 = .ok (.bipush 101, 2) := by decide +kernel
theorem dX9_partOf_88 : decode cX9_partOf 88 = .ok (.invokestatic 150, 3) := by decide +kernel
theorem dX9_partOf_91 : decode cX9_partOf 91 = .ok (.invokevirtual 205, 3) := by decide +kernel
theorem dX9_partOf_94 : decode cX9_partOf 94 = .ok (.ifCond .eq 8, 3) := by decide +kernel
theorem dX9_partOf_97 : decode cX9_partOf 97 = .ok (.bipush 43, 2) := by decide +kernel
theorem dX9_partOf_99 : decode cX9_partOf 99 = .ok (.goto 4, 3) := by decide +kernel
theorem dX9_partOf_102 : decode cX9_partOf 102 = .ok (.iconst (-1), 1) := by decide +kernel
theorem dX9_partOf_103 : decode cX9_partOf 103 = .ok (.ireturn, 1) := by decide +kernel
theorem dX9_partOf_104 : decode cX9_partOf 104 = .ok (.aload_n 0, 1) := by decide +kernel
theorem dX9_partOf_105 : decode cX9_partOf 105 = .ok (.bipush 101, 2) := by decide +kernel
theorem dX9_partOf_107 : decode cX9_partOf 107 = .ok (.bipush 110, 2) := by decide +kernel
theorem dX9_partOf_109 : decode cX9_partOf 109 = .ok (.bipush 100, 2) := by decide +kernel
theorem dX9_partOf_111 : decode cX9_partOf 111 = .ok (.invokestatic 146, 3) := by decide +kernel
theorem dX9_partOf_114 : decode cX9_partOf 114 = .ok (.invokevirtual 205, 3) := by decide +kernel
theorem dX9_partOf_117 : decode cX9_partOf 117 = .ok (.ifCond .eq 7, 3) := by decide +kernel
theorem dX9_partOf_120 : decode cX9_partOf 120 = .ok (.iconst 0, 1) := by decide +kernel
theorem dX9_partOf_121 : decode cX9_partOf 121 = .ok (.goto 4, 3) := by decide +kernel
theorem dX9_partOf_124 : decode cX9_partOf 124 = .ok (.iconst (-1), 1) := by decide +kernel
theorem dX9_partOf_125 : decode cX9_partOf 125 = .ok (.ireturn, 1) := by decide +kernel
theorem dX9_partOf_126 : decode cX9_partOf 126 = .ok (.iconst (-1), 1) := by decide +kernel
theorem dX9_partOf_127 : decode cX9_partOf 127 = .ok (.ireturn, 1) := by decide +kernel
theorem dX9_behindOne_0 : decode cX9_behindOne 0 = .ok (.aload_n 0, 1) := by decide +kernel
theorem dX9_behindOne_1 : decode cX9_behindOne 1 = .ok (.invokevirtual 219, 3) := by decide +kernel
theorem dX9_behindOne_4 : decode cX9_behindOne 4 = .ok (.istore_n 1, 1) := by decide +kernel
theorem dX9_behindOne_5 : decode cX9_behindOne 5 = .ok (.iload_n 1, 1) := by decide +kernel
theorem dX9_behindOne_6 : decode cX9_behindOne 6 = .ok (.ifCond .lt 54, 3) := by decide +kernel
theorem dX9_behindOne_9 : decode cX9_behindOne 9 = .ok (.aload_n 0, 1) := by decide +kernel
theorem dX9_behindOne_10 : decode cX9_behindOne 10 = .ok (.iload_n 1, 1) := by decide +kernel
theorem dX9_behindOne_11 : decode cX9_behindOne 11 = .ok (.invokestatic 170, 3) := by decide +kernel
theorem dX9_behindOne_14 : decode cX9_behindOne 14 = .ok (.iconst 4, 1) := by decide +kernel
theorem dX9_behindOne_15 : decode cX9_behindOne 15 = .ok (.if_icmp .ne 7, 3) := by decide +kernel
theorem dX9_behindOne_18 : decode cX9_behindOne 18 = .ok (.iconst 5, 1) := by decide +kernel
theorem dX9_behindOne_19 : decode cX9_behindOne 19 = .ok (.goto 7, 3) := by decide +kernel
theorem dX9_behindOne_22 : decode cX9_behindOne 22 = .ok (.iload_n 1, 1) := by decide +kernel
theorem dX9_behindOne_23 : decode cX9_behindOne 23 = .ok (.invokestatic 170, 3) := by decide +kernel
theorem dX9_behindOne_26 : decode cX9_behindOne 26 = .ok (.invokevirtual 199, 3) := by decide +kernel
theorem dX9_behindOne_29 : decode cX9_behindOne 29 = .ok (.aload_n 0, 1) := by decide +kernel
theorem dX9_behindOne_30 : decode cX9_behindOne 30 = .ok (.getfield 29, 3) := by decide +kernel
theorem dX9_behindOne_33 : decode cX9_behindOne 33 = .ok (.aload_n 0, 1) := by decide +kernel
theorem dX9_behindOne_34 : decode cX9_behindOne 34 = .ok (.getfield 167, 3) := by decide +kernel
theorem dX9_behindOne_37 : decode cX9_behindOne 37 = .ok (.iload_n 1, 1) := by decide +kernel
theorem dX9_behindOne_38 : decode cX9_behindOne 38 = .ok (.iastore, 1) := by decide +kernel
theorem dX9_behindOne_39 : decode cX9_behindOne 39 = .ok (.aload_n 0, 1) := by decide +kernel
theorem dX9_behindOne_40 : decode cX9_behindOne 40 = .ok (.dup, 1) := by decide +kernel
theorem dX9_behindOne_41 : decode cX9_behindOne 41 = .ok (.getfield 167, 3) := by decide +kernel
theorem dX9_behindOne_44 : decode cX9_behindOne 44 = .ok (.iconst 1, 1) := by decide +kernel
theorem dX9_behindOne_45 : decode cX9_behindOne 45 = .ok (.iadd, 1) := by decide +kernel
theorem dX9_behindOne_46 : decode cX9_behindOne 46 = .ok (.putfield 167, 3) := by decide +kernel
theorem dX9_behindOne_49 : decode cX9_behindOne 49 = .ok (.aload_n 0, 1) := by decide +kernel
theorem dX9_behindOne_50 : decode cX9_behindOne 50 = .ok (.iconst 0, 1) := by decide +kernel
theorem dX9_behindOne_51 : decode cX9_behindOne 51 = .ok (.putfield 196, 3) := by decide +kernel
theorem dX9_behindOne_54 : decode cX9_behindOne 54 = .ok (.aload_n 0, 1) := by decide +kernel
theorem dX9_behindOne_55 : decode cX9_behindOne 55 = .ok (.invokevirtual 187, 3) := by decide +kernel
theorem dX9_behindOne_58 : decode cX9_behindOne 58 = .ok (.iconst 1, 1) := by decide +kernel
theorem dX9_behindOne_59 : decode cX9_behindOne 59 = .ok (.ireturn, 1) := by decide +kernel
theorem dX9_behindOne_60 : decode cX9_behindOne 60 = .ok (.aload_n 0, 1) := by decide +kernel
theorem dX9_behindOne_61 : decode cX9_behindOne 61 = .ok (.invokevirtual 184, 3) := by decide +kernel
theorem dX9_behindOne_64 : decode cX9_behindOne 64 = .ok (.istore_n 2, 1) := by decide +kernel
theorem dX9_behindOne_65 : decode cX9_behindOne 65 = .ok (.aload_n 0, 1) := by decide +kernel
theorem dX9_behindOne_66 : decode cX9_behindOne 66 = .ok (.iload_n 2, 1) := by decide +kernel
theorem dX9_behindOne_67 : decode cX9_behindOne 67 = .ok (.invokevirtual 222, 3) := by decide +kernel
theorem dX9_behindOne_70 : decode cX9_behindOne 70 = .ok (.istore_n 3, 1) := by decide +kernel
theorem dX9_behindOne_71 : decode cX9_behindOne 71 = .ok (.iload_n 3, 1) := by decide +kernel
theorem dX9_behindOne_72 : decode cX9_behindOne 72 = .ok (.ifCond .ge 5, 3) := by decide +kernel
theorem dX9_behindOne_75 : decode cX9_behindOne 75 = .ok (.iconst 0, 1) := by decide +kernel
theorem dX9_behindOne_76 : decode cX9_behindOne 76 = .ok (.ireturn, 1) := by decide +kernel
theorem dX9_behindOne_77 : decode cX9_behindOne 77 = .ok (.aload_n 0, 1) := by decide +kernel
theorem dX9_behindOne_78 : decode cX9_behindOne 78 = .ok (.iconst 1, 1) := by decide +kernel
theorem dX9_behindOne_79 : decode cX9_behindOne 79 = .ok (.invokevirtual 199, 3) := by decide +kernel
theorem dX9_behindOne_82 : decode cX9_behindOne 82 = .ok (.aload_n 0, 1) := by decide +kernel
theorem dX9_behindOne_83 : decode cX9_behindOne 83 = .ok (.invokevirtual 187, 3) := by decide +kernel
theorem dX9_behindOne_86 : decode cX9_behindOne 86 = .ok (.iload_n 3, 1) := by decide +kernel
theorem dX9_behindOne_87 : decode cX9_behindOne 87 = .ok (.ifCond .le 20, 3) := by decide +kernel
theorem dX9_behindOne_90 : decode cX9_behindOne 90 = .ok (.aload_n 0, 1) := by decide +kernel
theorem dX9_behindOne_91 : decode cX9_behindOne 91 = .ok (.getfield 29, 3) := by decide +kernel
theorem dX9_behindOne_94 : decode cX9_behindOne 94 = .ok (.aload_n 0, 1) := by decide +kernel
theorem dX9_behindOne_95 : decode cX9_behindOne 95 = .ok (.invokevirtual 180, 3) := by decide +kernel
theorem dX9_behindOne_98 : decode cX9_behindOne 98 = .ok (.iload_n 3, 1) := by decide +kernel
theorem dX9_behindOne_99 : decode cX9_behindOne 99 = .ok (.iastore, 1) := by decide +kernel
theorem dX9_behindOne_100 : decode cX9_behindOne 100 = .ok (.aload_n 0, 1) := by decide +kernel
theorem dX9_behindOne_101 : decode cX9_behindOne 101 = .ok (.iconst 0, 1) := by decide +kernel
theorem dX9_behindOne_102 : decode cX9_behindOne 102 = .ok (.putfield 196, 3) := by decide +kernel
theorem dX9_behindOne_105 : decode cX9_behindOne 105 = .ok (.iconst 1, 1) := by decide +kernel
theorem dX9_behindOne_106 : decode cX9_behindOne 106 = .ok (.ireturn, 1) := by decide +kernel
theorem dX9_behindOne_107 : decode cX9_behindOne 107 = .ok (.aload_n 0, 1) := by decide +kernel
theorem dX9_behindOne_108 : decode cX9_behindOne 108 = .ok (.dup, 1) := by decide +kernel
theorem dX9_behindOne_109 : decode cX9_behindOne 109 = .ok (.getfield 177, 3) := by decide +kernel
theorem dX9_behindOne_112 : decode cX9_behindOne 112 = .ok (.iconst 1, 1) := by decide +kernel
theorem dX9_behindOne_113 : decode cX9_behindOne 113 = .ok (.isub, 1) := by decide +kernel
theorem dX9_behindOne_114 : decode cX9_behindOne 114 = .ok (.putfield 177, 3) := by decide +kernel
theorem dX9_behindOne_117 : decode cX9_behindOne 117 = .ok (.aload_n 0, 1) := by decide +kernel
theorem dX9_behindOne_118 : decode cX9_behindOne 118 = .ok (.dup, 1) := by decide +kernel
theorem dX9_behindOne_119 : decode cX9_behindOne 119 = .ok (.getfield 167, 3) := by decide +kernel
theorem dX9_behindOne_122 : decode cX9_behindOne 122 = .ok (.iconst 1, 1) := by decide +kernel
theorem dX9_behindOne_123 : decode cX9_behindOne 123 = .ok (.isub, 1) := by decide +kernel
theorem dX9_behindOne_124 : decode cX9_behindOne 124 = .ok (.putfield 167, 3) := by decide +kernel
theorem dX9_behindOne_127 : decode cX9_behindOne 127 = .ok (.iload_n 2, 1) := by decide +kernel
theorem dX9_behindOne_128 : decode cX9_behindOne 128 = .ok (.bipush 43, 2) := by decide +kernel
theorem dX9_behindOne_130 : decode cX9_behindOne 130 = .ok (.if_icmp .ne 9, 3) := by decide +kernel
theorem dX9_behindOne_133 : decode cX9_behindOne 133 = .ok (.aload_n 0, 1) := by decide +kernel
theorem dX9_behindOne_134 : decode cX9_behindOne 134 = .ok (.iconst 3, 1) := by decide +kernel
theorem dX9_behindOne_135 : decode cX9_behindOne 135 = .ok (.iconst 0, 1) := by decide +kernel
theorem dX9_behindOne_136 : decode cX9_behindOne 136 = .ok (.invokevirtual 173, 3) := by decide +kernel
theorem dX9_behindOne_139 : decode cX9_behindOne 139 = .ok (.aload_n 0, 1) := by decide +kernel
theorem dX9_behindOne_140 : decode cX9_behindOne 140 = .ok (.bipush 7, 2) := by decide +kernel
theorem dX9_behindOne_142 : decode cX9_behindOne 142 = .ok (.invokevirtual 199, 3) := by decide +kernel
theorem dX9_behindOne_145 : decode cX9_behindOne 145 = .ok (.iconst 1, 1) := by decide +kernel
theorem dX9_behindOne_146 : decode cX9_behindOne 146 = .ok (.ireturn, 1) := by decide +kernel
theorem dX9_summed_0 : decode cX9_summed 0 = .ok (.aload_n 0, 1) := by decide +kernel
theorem dX9_summed_1 : decode cX9_summed 1 = .ok (.iconst 0, 1) := by decide +kernel
theorem dX9_summed_2 : decode cX9_summed 2 = .ok (.putfield 167, 3) := by decide +kernel
theorem dX9_summed_5 : decode cX9_summed 5 = .ok (.aload_n 0, 1) := by decide +kernel
theorem dX9_summed_6 : decode cX9_summed 6 = .ok (.iconst 0, 1) := by decide +kernel
theorem dX9_summed_7 : decode cX9_summed 7 = .ok (.putfield 177, 3) := by decide +kernel
theorem dX9_summed_10 : decode cX9_summed 10 = .ok (.aload_n 0, 1) := by decide +kernel
theorem dX9_summed_11 : decode cX9_summed 11 = .ok (.iconst 0, 1) := by decide +kernel
theorem dX9_summed_12 : decode cX9_summed 12 = .ok (.putfield 196, 3) := by decide +kernel
theorem dX9_summed_15 : decode cX9_summed 15 = .ok (.aload_n 0, 1) := by decide +kernel
theorem dX9_summed_16 : decode cX9_summed 16 = .ok (.getfield 196, 3) := by decide +kernel
theorem dX9_summed_19 : decode cX9_summed 19 = .ok (.ifCond .eq 29, 3) := by decide +kernel
theorem dX9_summed_22 : decode cX9_summed 22 = .ok (.aload_n 0, 1) := by decide +kernel
theorem dX9_summed_23 : decode cX9_summed 23 = .ok (.invokevirtual 225, 3) := by decide +kernel
theorem dX9_summed_26 : decode cX9_summed 26 = .ok (.ifCond .eq 6, 3) := by decide +kernel
theorem dX9_summed_29 : decode cX9_summed 29 = .ok (.goto (-14), 3) := by decide +kernel
theorem dX9_summed_32 : decode cX9_summed 32 = .ok (.aload_n 0, 1) := by decide +kernel
theorem dX9_summed_33 : decode cX9_summed 33 = .ok (.invokevirtual 184, 3) := by decide +kernel
theorem dX9_summed_36 : decode cX9_summed 36 = .ok (.ifCond .lt 5, 3) := by decide +kernel
theorem dX9_summed_39 : decode cX9_summed 39 = .ok (.iconst 1, 1) := by decide +kernel
theorem dX9_summed_40 : decode cX9_summed 40 = .ok (.ireturn, 1) := by decide +kernel
theorem dX9_summed_41 : decode cX9_summed 41 = .ok (.aload_n 0, 1) := by decide +kernel
theorem dX9_summed_42 : decode cX9_summed 42 = .ok (.iconst 1, 1) := by decide +kernel
theorem dX9_summed_43 : decode cX9_summed 43 = .ok (.invokevirtual 199, 3) := by decide +kernel
theorem dX9_summed_46 : decode cX9_summed 46 = .ok (.iconst 0, 1) := by decide +kernel
theorem dX9_summed_47 : decode cX9_summed 47 = .ok (.ireturn, 1) := by decide +kernel
theorem dX9_summed_48 : decode cX9_summed 48 = .ok (.aload_n 0, 1) := by decide +kernel
theorem dX9_summed_49 : decode cX9_summed 49 = .ok (.invokevirtual 228, 3) := by decide +kernel
theorem dX9_summed_52 : decode cX9_summed 52 = .ok (.istore_n 1, 1) := by decide +kernel
theorem dX9_summed_53 : decode cX9_summed 53 = .ok (.iload_n 1, 1) := by decide +kernel
theorem dX9_summed_54 : decode cX9_summed 54 = .ok (.ifCond .eq 5, 3) := by decide +kernel
theorem dX9_summed_57 : decode cX9_summed 57 = .ok (.iload_n 1, 1) := by decide +kernel
theorem dX9_summed_58 : decode cX9_summed 58 = .ok (.ireturn, 1) := by decide +kernel
theorem dX9_summed_59 : decode cX9_summed 59 = .ok (.goto (-44), 3) := by decide +kernel
theorem dX9_figure_0 : decode cX9_figure 0 = .ok (.aload_n 0, 1) := by decide +kernel
theorem dX9_figure_1 : decode cX9_figure 1 = .ok (.getfield 120, 3) := by decide +kernel
theorem dX9_figure_4 : decode cX9_figure 4 = .ok (.iconst 1, 1) := by decide +kernel
theorem dX9_figure_5 : decode cX9_figure 5 = .ok (.if_icmp .eq 5, 3) := by decide +kernel
theorem dX9_figure_8 : decode cX9_figure 8 = .ok (.iconst 1, 1) := by decide +kernel
theorem dX9_figure_9 : decode cX9_figure 9 = .ok (.ireturn, 1) := by decide +kernel
theorem dX9_figure_10 : decode cX9_figure 10 = .ok (.aload_n 0, 1) := by decide +kernel
theorem dX9_figure_11 : decode cX9_figure 11 = .ok (.getfield 126, 3) := by decide +kernel
theorem dX9_figure_14 : decode cX9_figure 14 = .ok (.iload_n 2, 1) := by decide +kernel
theorem dX9_figure_15 : decode cX9_figure 15 = .ok (.iload_n 3, 1) := by decide +kernel
theorem dX9_figure_16 : decode cX9_figure 16 = .ok (.invokestatic 78, 3) := by decide +kernel
theorem dX9_figure_19 : decode cX9_figure 19 = .ok (.ifCond .ne 5, 3) := by decide +kernel
theorem dX9_figure_22 : decode cX9_figure 22 = .ok (.iconst 2, 1) := by decide +kernel
theorem dX9_figure_23 : decode cX9_figure 23 = .ok (.ireturn, 1) := by decide +kernel
theorem dX9_figure_24 : decode cX9_figure 24 = .ok (.aload_n 0, 1) := by decide +kernel
theorem dX9_figure_25 : decode cX9_figure 25 = .ok (.getfield 16, 3) := by decide +kernel
theorem dX9_figure_28 : decode cX9_figure 28 = .ok (.iload_n 1, 1) := by decide +kernel
theorem dX9_figure_29 : decode cX9_figure 29 = .ok (.aload_n 0, 1) := by decide +kernel
theorem dX9_figure_30 : decode cX9_figure 30 = .ok (.getfield 126, 3) := by decide +kernel
theorem dX9_figure_33 : decode cX9_figure 33 = .ok (.iastore, 1) := by decide +kernel
theorem dX9_figure_34 : decode cX9_figure 34 = .ok (.aload_n 0, 1) := by decide +kernel
theorem dX9_figure_35 : decode cX9_figure 35 = .ok (.invokevirtual 187, 3) := by decide +kernel
theorem dX9_figure_38 : decode cX9_figure 38 = .ok (.iconst 0, 1) := by decide +kernel
theorem dX9_figure_39 : decode cX9_figure 39 = .ok (.ireturn, 1) := by decide +kernel
theorem dX9_worded_0 : decode cX9_worded 0 = .ok (.aload_n 0, 1) := by decide +kernel
theorem dX9_worded_1 : decode cX9_worded 1 = .ok (.lload_n 1, 1) := by decide +kernel
theorem dX9_worded_2 : decode cX9_worded 2 = .ok (.invokevirtual 205, 3) := by decide +kernel
theorem dX9_worded_5 : decode cX9_worded 5 = .ok (.ifCond .ne 5, 3) := by decide +kernel
theorem dX9_worded_8 : decode cX9_worded 8 = .ok (.iconst 1, 1) := by decide +kernel
theorem dX9_worded_9 : decode cX9_worded 9 = .ok (.ireturn, 1) := by decide +kernel
theorem dX9_worded_10 : decode cX9_worded 10 = .ok (.aload_n 0, 1) := by decide +kernel
theorem dX9_worded_11 : decode cX9_worded 11 = .ok (.invokevirtual 187, 3) := by decide +kernel
theorem dX9_worded_14 : decode cX9_worded 14 = .ok (.aload_n 0, 1) := by decide +kernel
theorem dX9_worded_15 : decode cX9_worded 15 = .ok (.iload_n 3, 1) := by decide +kernel
theorem dX9_worded_16 : decode cX9_worded 16 = .ok (.iload 4, 2) := by decide +kernel
theorem dX9_worded_18 : decode cX9_worded 18 = .ok (.iload 5, 2) := by decide +kernel
theorem dX9_worded_20 : decode cX9_worded 20 = .ok (.invokevirtual 231, 3) := by decide +kernel
theorem dX9_worded_23 : decode cX9_worded 23 = .ok (.ireturn, 1) := by decide +kernel
theorem dX9_lawClause_0 : decode cX9_lawClause 0 = .ok (.aload_n 0, 1) := by decide +kernel
theorem dX9_lawClause_1 : decode cX9_lawClause 1 = .ok (.getfield 16, 3) := by decide +kernel
theorem dX9_lawClause_4 : decode cX9_lawClause 4 = .ok (.iload_n 1, 1) := by decide +kernel
theorem dX9_lawClause_5 : decode cX9_lawClause 5 = .ok (.iconst 1, 1) := by decide +kernel
theorem dX9_lawClause_6 : decode cX9_lawClause 6 = .ok (.iadd, 1) := by decide +kernel
theorem dX9_lawClause_7 : decode cX9_lawClause 7 = .ok (.aload_n 0, 1) := by decide +kernel
theorem dX9_lawClause_8 : decode cX9_lawClause 8 = .ok (.getfield 161, 3) := by decide +kernel
theorem dX9_lawClause_11 : decode cX9_lawClause 11 = .ok (.iastore, 1) := by decide +kernel
theorem dX9_lawClause_12 : decode cX9_lawClause 12 = .ok (.aload_n 0, 1) := by decide +kernel
theorem dX9_lawClause_13 : decode cX9_lawClause 13 = .ok (.invokevirtual 235, 3) := by decide +kernel
theorem dX9_lawClause_16 : decode cX9_lawClause 16 = .ok (.istore_n 2, 1) := by decide +kernel
theorem dX9_lawClause_17 : decode cX9_lawClause 17 = .ok (.aload_n 0, 1) := by decide +kernel
theorem dX9_lawClause_18 : decode cX9_lawClause 18 = .ok (.getfield 16, 3) := by decide +kernel
theorem dX9_lawClause_21 : decode cX9_lawClause 21 = .ok (.iload_n 1, 1) := by decide +kernel
theorem dX9_lawClause_22 : decode cX9_lawClause 22 = .ok (.iconst 2, 1) := by decide +kernel
theorem dX9_lawClause_23 : decode cX9_lawClause 23 = .ok (.iadd, 1) := by decide +kernel
theorem dX9_lawClause_24 : decode cX9_lawClause 24 = .ok (.aload_n 0, 1) := by decide +kernel
theorem dX9_lawClause_25 : decode cX9_lawClause 25 = .ok (.getfield 161, 3) := by decide +kernel
theorem dX9_lawClause_28 : decode cX9_lawClause 28 = .ok (.iastore, 1) := by decide +kernel
theorem dX9_lawClause_29 : decode cX9_lawClause 29 = .ok (.iload_n 2, 1) := by decide +kernel
theorem dX9_lawClause_30 : decode cX9_lawClause 30 = .ok (.ireturn, 1) := by decide +kernel
theorem dX9_sceneClause_0 : decode cX9_sceneClause 0 = .ok (.aload_n 0, 1) := by decide +kernel
theorem dX9_sceneClause_1 : decode cX9_sceneClause 1 = .ok (.iload_n 1, 1) := by decide +kernel
theorem dX9_sceneClause_2 : decode cX9_sceneClause 2 = .ok (.iconst 1, 1) := by decide +kernel
theorem dX9_sceneClause_3 : decode cX9_sceneClause 3 = .ok (.iadd, 1) := by decide +kernel
theorem dX9_sceneClause_4 : decode cX9_sceneClause 4 = .ok (.iconst 0, 1) := by decide +kernel
theorem dX9_sceneClause_5 : decode cX9_sceneClause 5 = .ok (.bipush 11, 2) := by decide +kernel
theorem dX9_sceneClause_7 : decode cX9_sceneClause 7 = .ok (.invokevirtual 231, 3) := by decide +kernel
theorem dX9_sceneClause_10 : decode cX9_sceneClause 10 = .ok (.istore_n 2, 1) := by decide +kernel
theorem dX9_sceneClause_11 : decode cX9_sceneClause 11 = .ok (.iload_n 2, 1) := by decide +kernel
theorem dX9_sceneClause_12 : decode cX9_sceneClause 12 = .ok (.ifCond .ne 20, 3) := by decide +kernel
theorem dX9_sceneClause_15 : decode cX9_sceneClause 15 = .ok (.aload_n 0, 1) := by decide +kernel
theorem dX9_sceneClause_16 : decode cX9_sceneClause 16 = .ok (.bipush 98, 2) := by decide +kernel
theorem dX9_sceneClause_18 : decode cX9_sceneClause 18 = .ok (.bipush 121, 2) := by decide +kernel
theorem dX9_sceneClause_20 : decode cX9_sceneClause 20 = .ok (.invokestatic 142, 3) := by decide +kernel
theorem dX9_sceneClause_23 : decode cX9_sceneClause 23 = .ok (.iload_n 1, 1) := by decide +kernel
theorem dX9_sceneClause_24 : decode cX9_sceneClause 24 = .ok (.iconst 2, 1) := by decide +kernel
theorem dX9_sceneClause_25 : decode cX9_sceneClause 25 = .ok (.iadd, 1) := by decide +kernel
theorem dX9_sceneClause_26 : decode cX9_sceneClause 26 = .ok (.iconst 0, 1) := by decide +kernel
theorem dX9_sceneClause_27 : decode cX9_sceneClause 27 = .ok (.iconst 3, 1) := by decide +kernel
theorem dX9_sceneClause_28 : decode cX9_sceneClause 28 = .ok (.invokevirtual 238, 3) := by decide +kernel
theorem dX9_sceneClause_31 : decode cX9_sceneClause 31 = .ok (.istore_n 2, 1) := by decide +kernel
theorem dX9_sceneClause_32 : decode cX9_sceneClause 32 = .ok (.iload_n 2, 1) := by decide +kernel
theorem dX9_sceneClause_33 : decode cX9_sceneClause 33 = .ok (.ifCond .eq 7, 3) := by decide +kernel
theorem dX9_sceneClause_36 : decode cX9_sceneClause 36 = .ok (.iload_n 2, 1) := by decide +kernel
theorem dX9_sceneClause_37 : decode cX9_sceneClause 37 = .ok (.goto 20, 3) := by decide +kernel
theorem dX9_sceneClause_40 : decode cX9_sceneClause 40 = .ok (.aload_n 0, 1) := by decide +kernel
theorem dX9_sceneClause_41 : decode cX9_sceneClause 41 = .ok (.bipush 116, 2) := by decide +kernel
theorem dX9_sceneClause_43 : decode cX9_sceneClause 43 = .ok (.bipush 111, 2) := by decide +kernel
theorem dX9_sceneClause_45 : decode cX9_sceneClause 45 = .ok (.invokestatic 142, 3) := by decide +kernel
theorem dX9_sceneClause_48 : decode cX9_sceneClause 48 = .ok (.iload_n 1, 1) := by decide +kernel
theorem dX9_sceneClause_49 : decode cX9_sceneClause 49 = .ok (.iconst 3, 1) := by decide +kernel
theorem dX9_sceneClause_50 : decode cX9_sceneClause 50 = .ok (.iadd, 1) := by decide +kernel
theorem dX9_sceneClause_51 : decode cX9_sceneClause 51 = .ok (.iconst 0, 1) := by decide +kernel
theorem dX9_sceneClause_52 : decode cX9_sceneClause 52 = .ok (.bipush 12, 2) := by decide +kernel
theorem dX9_sceneClause_54 : decode cX9_sceneClause 54 = .ok (.invokevirtual 238, 3) := by decide +kernel
theorem dX9_sceneClause_57 : decode cX9_sceneClause 57 = .ok (.ireturn, 1) := by decide +kernel
theorem dX9_pair_0 : decode cX9_pair 0 = .ok (.aload_n 0, 1) := by decide +kernel
theorem dX9_pair_1 : decode cX9_pair 1 = .ok (.iload_n 1, 1) := by decide +kernel
theorem dX9_pair_2 : decode cX9_pair 2 = .ok (.iconst 1, 1) := by decide +kernel
theorem dX9_pair_3 : decode cX9_pair 3 = .ok (.iadd, 1) := by decide +kernel
theorem dX9_pair_4 : decode cX9_pair 4 = .ok (.iconst 0, 1) := by decide +kernel
theorem dX9_pair_5 : decode cX9_pair 5 = .ok (.iload_n 2, 1) := by decide +kernel
theorem dX9_pair_6 : decode cX9_pair 6 = .ok (.invokevirtual 231, 3) := by decide +kernel
theorem dX9_pair_9 : decode cX9_pair 9 = .ok (.istore 7, 2) := by decide +kernel
theorem dX9_pair_11 : decode cX9_pair 11 = .ok (.iload 7, 2) := by decide +kernel
theorem dX9_pair_13 : decode cX9_pair 13 = .ok (.ifCond .eq 8, 3) := by decide +kernel
theorem dX9_pair_16 : decode cX9_pair 16 = .ok (.iload 7, 2) := by decide +kernel
theorem dX9_pair_18 : decode cX9_pair 18 = .ok (.goto 15, 3) := by decide +kernel
theorem dX9_pair_21 : decode cX9_pair 21 = .ok (.aload_n 0, 1) := by decide +kernel
theorem dX9_pair_22 : decode cX9_pair 22 = .ok (.lload_n 3, 1) := by decide +kernel
theorem dX9_pair_23 : decode cX9_pair 23 = .ok (.iload_n 1, 1) := by decide +kernel
theorem dX9_pair_24 : decode cX9_pair 24 = .ok (.iconst 2, 1) := by decide +kernel
theorem dX9_pair_25 : decode cX9_pair 25 = .ok (.iadd, 1) := by decide +kernel
theorem dX9_pair_26 : decode cX9_pair 26 = .ok (.iload 5, 2) := by decide +kernel
theorem dX9_pair_28 : decode cX9_pair 28 = .ok (.iload 6, 2) := by decide +kernel
theorem dX9_pair_30 : decode cX9_pair 30 = .ok (.invokevirtual 238, 3) := by decide +kernel
theorem dX9_pair_33 : decode cX9_pair 33 = .ok (.ireturn, 1) := by decide +kernel
theorem dX9_body_0 : decode cX9_body 0 = .ok (.iload_n 1, 1) := by decide +kernel
theorem dX9_body_1 : decode cX9_body 1 = .ok (.tableswitch 143 3 9 #[43, 49, 66, 86, 104, 121, 132], 43) := by decide +kernel
theorem dX9_body_44 : decode cX9_body 44 = .ok (.aload_n 0, 1) := by decide +kernel
theorem dX9_body_45 : decode cX9_body 45 = .ok (.iload_n 2, 1) := by decide +kernel
theorem dX9_body_46 : decode cX9_body 46 = .ok (.invokevirtual 242, 3) := by decide +kernel
theorem dX9_body_49 : decode cX9_body 49 = .ok (.ireturn, 1) := by decide +kernel
theorem dX9_body_50 : decode cX9_body 50 = .ok (.aload_n 0, 1) := by decide +kernel
theorem dX9_body_51 : decode cX9_body 51 = .ok (.iload_n 2, 1) := by decide +kernel
theorem dX9_body_52 : decode cX9_body 52 = .ok (.iconst 3, 1) := by decide +kernel
theorem dX9_body_53 : decode cX9_body 53 = .ok (.bipush 111, 2) := by decide +kernel
theorem dX9_body_55 : decode cX9_body 55 = .ok (.bipush 102, 2) := by decide +kernel
theorem dX9_body_57 : decode cX9_body 57 = .ok (.invokestatic 142, 3) := by decide +kernel
theorem dX9_body_60 : decode cX9_body 60 = .ok (.iconst 0, 1) := by decide +kernel
theorem dX9_body_61 : decode cX9_body 61 = .ok (.bipush 11, 2) := by decide +kernel
theorem dX9_body_63 : decode cX9_body 63 = .ok (.invokevirtual 245, 3) := by decide +kernel
theorem dX9_body_66 : decode cX9_body 66 = .ok (.ireturn, 1) := by decide +kernel
theorem dX9_body_67 : decode cX9_body 67 = .ok (.aload_n 0, 1) := by decide +kernel
theorem dX9_body_68 : decode cX9_body 68 = .ok (.iload_n 2, 1) := by decide +kernel
theorem dX9_body_69 : decode cX9_body 69 = .ok (.bipush 9, 2) := by decide +kernel
theorem dX9_body_71 : decode cX9_body 71 = .ok (.bipush 114, 2) := by decide +kernel
theorem dX9_body_73 : decode cX9_body 73 = .ok (.bipush 111, 2) := by decide +kernel
theorem dX9_body_75 : decode cX9_body 75 = .ok (.bipush 119, 2) := by decide +kernel
theorem dX9_body_77 : decode cX9_body 77 = .ok (.invokestatic 146, 3) := by decide +kernel
theorem dX9_body_80 : decode cX9_body 80 = .ok (.iconst 0, 1) := by decide +kernel
theorem dX9_body_81 : decode cX9_body 81 = .ok (.bipush 9, 2) := by decide +kernel
theorem dX9_body_83 : decode cX9_body 83 = .ok (.invokevirtual 245, 3) := by decide +kernel
theorem dX9_body_86 : decode cX9_body 86 = .ok (.ireturn, 1) := by decide +kernel
theorem dX9_body_87 : decode cX9_body 87 = .ok (.aload_n 0, 1) := by decide +kernel
theorem dX9_body_88 : decode cX9_body 88 = .ok (.iload_n 2, 1) := by decide +kernel
theorem dX9_body_89 : decode cX9_body 89 = .ok (.bipush 7, 2) := by decide +kernel
theorem dX9_body_91 : decode cX9_body 91 = .ok (.bipush 105, 2) := by decide +kernel
theorem dX9_body_93 : decode cX9_body 93 = .ok (.bipush 110, 2) := by decide +kernel
theorem dX9_body_95 : decode cX9_body 95 = .ok (.invokestatic 142, 3) := by decide +kernel
theorem dX9_body_98 : decode cX9_body 98 = .ok (.iconst 0, 1) := by decide +kernel
theorem dX9_body_99 : decode cX9_body 99 = .ok (.bipush 9, 2) := by decide +kernel
theorem dX9_body_101 : decode cX9_body 101 = .ok (.invokevirtual 245, 3) := by decide +kernel
theorem dX9_body_104 : decode cX9_body 104 = .ok (.ireturn, 1) := by decide +kernel
theorem dX9_body_105 : decode cX9_body 105 = .ok (.aload_n 0, 1) := by decide +kernel
theorem dX9_body_106 : decode cX9_body 106 = .ok (.iload_n 2, 1) := by decide +kernel
theorem dX9_body_107 : decode cX9_body 107 = .ok (.bipush 11, 2) := by decide +kernel
theorem dX9_body_109 : decode cX9_body 109 = .ok (.bipush 98, 2) := by decide +kernel
theorem dX9_body_111 : decode cX9_body 111 = .ok (.bipush 121, 2) := by decide +kernel
theorem dX9_body_113 : decode cX9_body 113 = .ok (.invokestatic 142, 3) := by decide +kernel
theorem dX9_body_116 : decode cX9_body 116 = .ok (.iconst 1, 1) := by decide +kernel
theorem dX9_body_117 : decode cX9_body 117 = .ok (.iconst 3, 1) := by decide +kernel
theorem dX9_body_118 : decode cX9_body 118 = .ok (.invokevirtual 245, 3) := by decide +kernel
theorem dX9_body_121 : decode cX9_body 121 = .ok (.ireturn, 1) := by decide +kernel
theorem dX9_body_122 : decode cX9_body 122 = .ok (.aload_n 0, 1) := by decide +kernel
theorem dX9_body_123 : decode cX9_body 123 = .ok (.iload_n 2, 1) := by decide +kernel
theorem dX9_body_124 : decode cX9_body 124 = .ok (.iconst 1, 1) := by decide +kernel
theorem dX9_body_125 : decode cX9_body 125 = .ok (.iadd, 1) := by decide +kernel
theorem dX9_body_126 : decode cX9_body 126 = .ok (.iconst 0, 1) := by decide +kernel
theorem dX9_body_127 : decode cX9_body 127 = .ok (.bipush 11, 2) := by decide +kernel
theorem dX9_body_129 : decode cX9_body 129 = .ok (.invokevirtual 231, 3) := by decide +kernel
theorem dX9_body_132 : decode cX9_body 132 = .ok (.ireturn, 1) := by decide +kernel
theorem dX9_body_133 : decode cX9_body 133 = .ok (.aload_n 0, 1) := by decide +kernel
theorem dX9_body_134 : decode cX9_body 134 = .ok (.iload_n 2, 1) := by decide +kernel
theorem dX9_body_135 : decode cX9_body 135 = .ok (.iconst 1, 1) := by decide +kernel
theorem dX9_body_136 : decode cX9_body 136 = .ok (.iadd, 1) := by decide +kernel
theorem dX9_body_137 : decode cX9_body 137 = .ok (.iconst 1, 1) := by decide +kernel
theorem dX9_body_138 : decode cX9_body 138 = .ok (.bipush 40, 2) := by decide +kernel
theorem dX9_body_140 : decode cX9_body 140 = .ok (.invokevirtual 231, 3) := by decide +kernel
theorem dX9_body_143 : decode cX9_body 143 = .ok (.ireturn, 1) := by decide +kernel
theorem dX9_body_144 : decode cX9_body 144 = .ok (.aload_n 0, 1) := by decide +kernel
theorem dX9_body_145 : decode cX9_body 145 = .ok (.iload_n 2, 1) := by decide +kernel
theorem dX9_body_146 : decode cX9_body 146 = .ok (.invokevirtual 249, 3) := by decide +kernel
theorem dX9_body_149 : decode cX9_body 149 = .ok (.ireturn, 1) := by decide +kernel
theorem dX9_sortOf_0 : decode cX9_sortOf 0 = .ok (.aload_n 0, 1) := by decide +kernel
theorem dX9_sortOf_1 : decode cX9_sortOf 1 = .ok (.bipush 99, 2) := by decide +kernel
theorem dX9_sortOf_3 : decode cX9_sortOf 3 = .ok (.bipush 117, 2) := by decide +kernel
theorem dX9_sortOf_5 : decode cX9_sortOf 5 = .ok (.bipush 101, 2) := by decide +kernel
theorem dX9_sortOf_7 : decode cX9_sortOf 7 = .ok (.bipush 115, 2) := by decide +kernel
theorem dX9_sortOf_9 : decode cX9_sortOf 9 = .ok (.invokestatic 150, 3) := by decide +kernel
theorem dX9_sortOf_12 : decode cX9_sortOf 12 = .ok (.invokevirtual 205, 3) := by decide +kernel
theorem dX9_sortOf_15 : decode cX9_sortOf 15 = .ok (.ifCond .eq 5, 3) := by decide +kernel
theorem dX9_sortOf_18 : decode cX9_sortOf 18 = .ok (.iconst 0, 1) := by decide +kernel
theorem dX9_sortOf_19 : decode cX9_sortOf 19 = .ok (.ireturn, 1) := by decide +kernel
theorem dX9_sortOf_20 : decode cX9_sortOf 20 = .ok (.aload_n 0, 1) := by decide +kernel
theorem dX9_sortOf_21 : decode cX9_sortOf 21 = .ok (.bipush 115, 2) := by decide +kernel
theorem dX9_sortOf_23 : decode cX9_sortOf 23 = .ok (.bipush 116, 2) := by decide +kernel
theorem dX9_sortOf_25 : decode cX9_sortOf 25 = .ok (.bipush 97, 2) := by decide +kernel
theorem dX9_sortOf_27 : decode cX9_sortOf 27 = .ok (.bipush 121, 2) := by decide +kernel
theorem dX9_sortOf_29 : decode cX9_sortOf 29 = .ok (.bipush 115, 2) := by decide +kernel
theorem dX9_sortOf_31 : decode cX9_sortOf 31 = .ok (.invokestatic 154, 3) := by decide +kernel
theorem dX9_sortOf_34 : decode cX9_sortOf 34 = .ok (.invokevirtual 205, 3) := by decide +kernel
theorem dX9_sortOf_37 : decode cX9_sortOf 37 = .ok (.ifCond .eq 5, 3) := by decide +kernel
theorem dX9_sortOf_40 : decode cX9_sortOf 40 = .ok (.iconst 1, 1) := by decide +kernel
theorem dX9_sortOf_41 : decode cX9_sortOf 41 = .ok (.ireturn, 1) := by decide +kernel
theorem dX9_sortOf_42 : decode cX9_sortOf 42 = .ok (.aload_n 0, 1) := by decide +kernel
theorem dX9_sortOf_43 : decode cX9_sortOf 43 = .ok (.bipush 103, 2) := by decide +kernel
theorem dX9_sortOf_45 : decode cX9_sortOf 45 = .ok (.bipush 108, 2) := by decide +kernel
theorem dX9_sortOf_47 : decode cX9_sortOf 47 = .ok (.bipush 97, 2) := by decide +kernel
theorem dX9_sortOf_49 : decode cX9_sortOf 49 = .ok (.bipush 100, 2) := by decide +kernel
theorem dX9_sortOf_51 : decode cX9_sortOf 51 = .ok (.invokestatic 150, 3) := by decide +kernel
theorem dX9_sortOf_54 : decode cX9_sortOf 54 = .ok (.bipush 100, 2) := by decide +kernel
theorem dX9_sortOf_56 : decode cX9_sortOf 56 = .ok (.bipush 101, 2) := by decide +kernel
theorem dX9_sortOf_58 : decode cX9_sortOf 58 = .ok (.bipush 110, 2) := by decide +kernel
theorem dX9_sortOf_60 : decode cX9_sortOf 60 = .ok (.bipush 115, 2) := by decide +kernel
theorem dX9_sortOf_62 : decode cX9_sortOf 62 = .ok (.invokestatic 150, 3) := by decide +kernel
theorem dX9_sortOf_65 : decode cX9_sortOf 65 = .ok (.bipush 8, 2) := by decide +kernel
theorem dX9_sortOf_67 : decode cX9_sortOf 67 = .ok (.invokevirtual 252, 3) := by decide +kernel
theorem dX9_sortOf_70 : decode cX9_sortOf 70 = .ok (.ifCond .eq 5, 3) := by decide +kernel
theorem dX9_sortOf_73 : decode cX9_sortOf 73 = .ok (.iconst 2, 1) := by decide +kernel
theorem dX9_sortOf_74 : decode cX9_sortOf 74 = .ok (.ireturn, 1) := by decide +kernel
theorem dX9_sortOf_75 : decode cX9_sortOf 75 = .ok (.aload_n 0, 1) := by decide +kernel
theorem dX9_sortOf_76 : decode cX9_sortOf 76 = .ok (.bipush 115, 2) := by decide +kernel
theorem dX9_sortOf_78 : decode cX9_sortOf 78 = .ok (.bipush 99, 2) := by decide +kernel
theorem dX9_sortOf_80 : decode cX9_sortOf 80 = .ok (.bipush 101, 2) := by decide +kernel
theorem dX9_sortOf_82 : decode cX9_sortOf 82 = .ok (.bipush 110, 2) := by decide +kernel
theorem dX9_sortOf_84 : decode cX9_sortOf 84 = .ok (.bipush 101, 2) := by decide +kernel
theorem dX9_sortOf_86 : decode cX9_sortOf 86 = .ok (.invokestatic 154, 3) := by decide +kernel
theorem dX9_sortOf_89 : decode cX9_sortOf 89 = .ok (.invokevirtual 205, 3) := by decide +kernel
theorem dX9_sortOf_92 : decode cX9_sortOf 92 = .ok (.ifCond .eq 5, 3) := by decide +kernel
theorem dX9_sortOf_95 : decode cX9_sortOf 95 = .ok (.iconst 3, 1) := by decide +kernel
theorem dX9_sortOf_96 : decode cX9_sortOf 96 = .ok (.ireturn, 1) := by decide +kernel
theorem dX9_sortOf_97 : decode cX9_sortOf 97 = .ok (.aload_n 0, 1) := by decide +kernel
theorem dX9_sortOf_98 : decode cX9_sortOf 98 = .ok (.bipush 107, 2) := by decide +kernel
theorem dX9_sortOf_100 : decode cX9_sortOf 100 = .ok (.bipush 105, 2) := by decide +kernel
theorem dX9_sortOf_102 : decode cX9_sortOf 102 = .ok (.bipush 110, 2) := by decide +kernel
theorem dX9_sortOf_104 : decode cX9_sortOf 104 = .ok (.bipush 100, 2) := by decide +kernel
theorem dX9_sortOf_106 : decode cX9_sortOf 106 = .ok (.invokestatic 150, 3) := by decide +kernel
theorem dX9_sortOf_109 : decode cX9_sortOf 109 = .ok (.invokevirtual 205, 3) := by decide +kernel
theorem dX9_sortOf_112 : decode cX9_sortOf 112 = .ok (.ifCond .eq 5, 3) := by decide +kernel
theorem dX9_sortOf_115 : decode cX9_sortOf 115 = .ok (.iconst 4, 1) := by decide +kernel
theorem dX9_sortOf_116 : decode cX9_sortOf 116 = .ok (.ireturn, 1) := by decide +kernel
theorem dX9_sortOf_117 : decode cX9_sortOf 117 = .ok (.aload_n 0, 1) := by decide +kernel
theorem dX9_sortOf_118 : decode cX9_sortOf 118 = .ok (.bipush 112, 2) := by decide +kernel
theorem dX9_sortOf_120 : decode cX9_sortOf 120 = .ok (.bipush 101, 2) := by decide +kernel
theorem dX9_sortOf_122 : decode cX9_sortOf 122 = .ok (.bipush 114, 2) := by decide +kernel
theorem dX9_sortOf_124 : decode cX9_sortOf 124 = .ok (.bipush 115, 2) := by decide +kernel
theorem dX9_sortOf_126 : decode cX9_sortOf 126 = .ok (.bipush 111, 2) := by decide +kernel
theorem dX9_sortOf_128 : decode cX9_sortOf 128 = .ok (.bipush 110, 2) := by decide +kernel
theorem dX9_sortOf_130 : decode cX9_sortOf 130 = .ok (.invokestatic 256, 3) := by decide +kernel
theorem dX9_sortOf_133 : decode cX9_sortOf 133 = .ok (.invokevirtual 205, 3) := by decide +kernel
theorem dX9_sortOf_136 : decode cX9_sortOf 136 = .ok (.ifCond .eq 5, 3) := by decide +kernel
theorem dX9_sortOf_139 : decode cX9_sortOf 139 = .ok (.iconst 5, 1) := by decide +kernel
theorem dX9_sortOf_140 : decode cX9_sortOf 140 = .ok (.ireturn, 1) := by decide +kernel
theorem dX9_sortOf_141 : decode cX9_sortOf 141 = .ok (.aload_n 0, 1) := by decide +kernel
theorem dX9_sortOf_142 : decode cX9_sortOf 142 = .ok (.bipush 115, 2) := by decide +kernel
theorem dX9_sortOf_144 : decode cX9_sortOf 144 = .ok (.bipush 101, 2) := by decide +kernel
theorem dX9_sortOf_146 : decode cX9_sortOf 146 = .ok (.bipush 97, 2) := by decide +kernel
theorem dX9_sortOf_148 : decode cX9_sortOf 148 = .ok (.bipush 116, 2) := by decide +kernel
theorem dX9_sortOf_150 : decode cX9_sortOf 150 = .ok (.invokestatic 150, 3) := by decide +kernel
theorem dX9_sortOf_153 : decode cX9_sortOf 153 = .ok (.invokevirtual 205, 3) := by decide +kernel
theorem dX9_sortOf_156 : decode cX9_sortOf 156 = .ok (.ifCond .eq 6, 3) := by decide +kernel
theorem dX9_sortOf_159 : decode cX9_sortOf 159 = .ok (.bipush 6, 2) := by decide +kernel
theorem dX9_sortOf_161 : decode cX9_sortOf 161 = .ok (.ireturn, 1) := by decide +kernel
theorem dX9_sortOf_162 : decode cX9_sortOf 162 = .ok (.aload_n 0, 1) := by decide +kernel
theorem dX9_sortOf_163 : decode cX9_sortOf 163 = .ok (.bipush 99, 2) := by decide +kernel
theorem dX9_sortOf_165 : decode cX9_sortOf 165 = .ok (.bipush 97, 2) := by decide +kernel
theorem dX9_sortOf_167 : decode cX9_sortOf 167 = .ok (.bipush 108, 2) := by decide +kernel
theorem dX9_sortOf_169 : decode cX9_sortOf 169 = .ok (.bipush 108, 2) := by decide +kernel
theorem dX9_sortOf_171 : decode cX9_sortOf 171 = .ok (.invokestatic 150, 3) := by decide +kernel
theorem dX9_sortOf_174 : decode cX9_sortOf 174 = .ok (.invokevirtual 205, 3) := by decide +kernel
theorem dX9_sortOf_177 : decode cX9_sortOf 177 = .ok (.ifCond .eq 6, 3) := by decide +kernel
theorem dX9_sortOf_180 : decode cX9_sortOf 180 = .ok (.bipush 7, 2) := by decide +kernel
theorem dX9_sortOf_182 : decode cX9_sortOf 182 = .ok (.ireturn, 1) := by decide +kernel
theorem dX9_sortOf_183 : decode cX9_sortOf 183 = .ok (.aload_n 0, 1) := by decide +kernel
theorem dX9_sortOf_184 : decode cX9_sortOf 184 = .ok (.bipush 109, 2) := by decide +kernel
theorem dX9_sortOf_186 : decode cX9_sortOf 186 = .ok (.bipush 101, 2) := by decide +kernel
theorem dX9_sortOf_188 : decode cX9_sortOf 188 = .ok (.bipush 110, 2) := by decide +kernel
theorem dX9_sortOf_190 : decode cX9_sortOf 190 = .ok (.bipush 100, 2) := by decide +kernel
theorem dX9_sortOf_192 : decode cX9_sortOf 192 = .ok (.invokestatic 150, 3) := by decide +kernel
theorem dX9_sortOf_195 : decode cX9_sortOf 195 = .ok (.invokevirtual 205, 3) := by decide +kernel
theorem dX9_sortOf_198 : decode cX9_sortOf 198 = .ok (.ifCond .eq 8, 3) := by decide +kernel
theorem dX9_sortOf_201 : decode cX9_sortOf 201 = .ok (.bipush 8, 2) := by decide +kernel
theorem dX9_sortOf_203 : decode cX9_sortOf 203 = .ok (.goto 38, 3) := by decide +kernel
theorem dX9_sortOf_206 : decode cX9_sortOf 206 = .ok (.aload_n 0, 1) := by decide +kernel
theorem dX9_sortOf_207 : decode cX9_sortOf 207 = .ok (.bipush 101, 2) := by decide +kernel
theorem dX9_sortOf_209 : decode cX9_sortOf 209 = .ok (.bipush 118, 2) := by decide +kernel
theorem dX9_sortOf_211 : decode cX9_sortOf 211 = .ok (.bipush 101, 2) := by decide +kernel
theorem dX9_sortOf_213 : decode cX9_sortOf 213 = .ok (.bipush 110, 2) := by decide +kernel
theorem dX9_sortOf_215 : decode cX9_sortOf 215 = .ok (.invokestatic 150, 3) := by decide +kernel
theorem dX9_sortOf_218 : decode cX9_sortOf 218 = .ok (.bipush 105, 2) := by decide +kernel
theorem dX9_sortOf_220 : decode cX9_sortOf 220 = .ok (.bipush 110, 2) := by decide +kernel
theorem dX9_sortOf_222 : decode cX9_sortOf 222 = .ok (.bipush 103, 2) := by decide +kernel
theorem dX9_sortOf_224 : decode cX9_sortOf 224 = .ok (.invokestatic 146, 3) := by decide +kernel
theorem dX9_sortOf_227 : decode cX9_sortOf 227 = .ok (.bipush 7, 2) := by decide +kernel
theorem dX9_sortOf_229 : decode cX9_sortOf 229 = .ok (.invokevirtual 252, 3) := by decide +kernel
theorem dX9_sortOf_232 : decode cX9_sortOf 232 = .ok (.ifCond .eq 8, 3) := by decide +kernel
theorem dX9_sortOf_235 : decode cX9_sortOf 235 = .ok (.bipush 9, 2) := by decide +kernel
theorem dX9_sortOf_237 : decode cX9_sortOf 237 = .ok (.goto 4, 3) := by decide +kernel
theorem dX9_sortOf_240 : decode cX9_sortOf 240 = .ok (.iconst (-1), 1) := by decide +kernel
theorem dX9_sortOf_241 : decode cX9_sortOf 241 = .ok (.ireturn, 1) := by decide +kernel
theorem dX9_clause_0 : decode cX9_clause 0 = .ok (.aload_n 0, 1) := by decide +kernel
theorem dX9_clause_1 : decode cX9_clause 1 = .ok (.invokevirtual 260, 3) := by decide +kernel
theorem dX9_clause_4 : decode cX9_clause 4 = .ok (.istore_n 1, 1) := by decide +kernel
theorem dX9_clause_5 : decode cX9_clause 5 = .ok (.iload_n 1, 1) := by decide +kernel
theorem dX9_clause_6 : decode cX9_clause 6 = .ok (.ifCond .ge 5, 3) := by decide +kernel
theorem dX9_clause_9 : decode cX9_clause 9 = .ok (.iconst 1, 1) := by decide +kernel
theorem dX9_clause_10 : decode cX9_clause 10 = .ok (.ireturn, 1) := by decide +kernel
theorem dX9_clause_11 : decode cX9_clause 11 = .ok (.iload_n 1, 1) := by decide +kernel
theorem dX9_clause_12 : decode cX9_clause 12 = .ok (.iconst 2, 1) := by decide +kernel
theorem dX9_clause_13 : decode cX9_clause 13 = .ok (.if_icmp .gt 16, 3) := by decide +kernel
theorem dX9_clause_16 : decode cX9_clause 16 = .ok (.aload_n 0, 1) := by decide +kernel
theorem dX9_clause_17 : decode cX9_clause 17 = .ok (.getfield 263, 3) := by decide +kernel
theorem dX9_clause_20 : decode cX9_clause 20 = .ok (.iload_n 1, 1) := by decide +kernel
theorem dX9_clause_21 : decode cX9_clause 21 = .ok (.invokestatic 266, 3) := by decide +kernel
theorem dX9_clause_24 : decode cX9_clause 24 = .ok (.ifCond .eq 5, 3) := by decide +kernel
theorem dX9_clause_27 : decode cX9_clause 27 = .ok (.iconst 4, 1) := by decide +kernel
theorem dX9_clause_28 : decode cX9_clause 28 = .ok (.ireturn, 1) := by decide +kernel
theorem dX9_clause_29 : decode cX9_clause 29 = .ok (.aload_n 0, 1) := by decide +kernel
theorem dX9_clause_30 : decode cX9_clause 30 = .ok (.getfield 16, 3) := by decide +kernel
theorem dX9_clause_33 : decode cX9_clause 33 = .ok (.aload_n 0, 1) := by decide +kernel
theorem dX9_clause_34 : decode cX9_clause 34 = .ok (.getfield 158, 3) := by decide +kernel
theorem dX9_clause_37 : decode cX9_clause 37 = .ok (.iaload, 1) := by decide +kernel
theorem dX9_clause_38 : decode cX9_clause 38 = .ok (.istore_n 2, 1) := by decide +kernel
theorem dX9_clause_39 : decode cX9_clause 39 = .ok (.iload_n 2, 1) := by decide +kernel
theorem dX9_clause_40 : decode cX9_clause 40 = .ok (.bipush 24, 2) := by decide +kernel
theorem dX9_clause_42 : decode cX9_clause 42 = .ok (.if_icmp .ne 6, 3) := by decide +kernel
theorem dX9_clause_45 : decode cX9_clause 45 = .ok (.bipush 6, 2) := by decide +kernel
theorem dX9_clause_47 : decode cX9_clause 47 = .ok (.ireturn, 1) := by decide +kernel
theorem dX9_clause_48 : decode cX9_clause 48 = .ok (.iload_n 1, 1) := by decide +kernel
theorem dX9_clause_49 : decode cX9_clause 49 = .ok (.iconst 2, 1) := by decide +kernel
theorem dX9_clause_50 : decode cX9_clause 50 = .ok (.if_icmp .gt 15, 3) := by decide +kernel
theorem dX9_clause_53 : decode cX9_clause 53 = .ok (.aload_n 0, 1) := by decide +kernel
theorem dX9_clause_54 : decode cX9_clause 54 = .ok (.dup, 1) := by decide +kernel
theorem dX9_clause_55 : decode cX9_clause 55 = .ok (.getfield 263, 3) := by decide +kernel
theorem dX9_clause_58 : decode cX9_clause 58 = .ok (.iconst 1, 1) := by decide +kernel
theorem dX9_clause_59 : decode cX9_clause 59 = .ok (.iload_n 1, 1) := by decide +kernel
theorem dX9_clause_60 : decode cX9_clause 60 = .ok (.ishl, 1) := by decide +kernel
theorem dX9_clause_61 : decode cX9_clause 61 = .ok (.ior, 1) := by decide +kernel
theorem dX9_clause_62 : decode cX9_clause 62 = .ok (.putfield 263, 3) := by decide +kernel
theorem dX9_clause_65 : decode cX9_clause 65 = .ok (.aload_n 0, 1) := by decide +kernel
theorem dX9_clause_66 : decode cX9_clause 66 = .ok (.iload_n 1, 1) := by decide +kernel
theorem dX9_clause_67 : decode cX9_clause 67 = .ok (.putfield 164, 3) := by decide +kernel
theorem dX9_clause_70 : decode cX9_clause 70 = .ok (.aload_n 0, 1) := by decide +kernel
theorem dX9_clause_71 : decode cX9_clause 71 = .ok (.invokevirtual 187, 3) := by decide +kernel
theorem dX9_clause_74 : decode cX9_clause 74 = .ok (.aload_n 0, 1) := by decide +kernel
theorem dX9_clause_75 : decode cX9_clause 75 = .ok (.getfield 158, 3) := by decide +kernel
theorem dX9_clause_78 : decode cX9_clause 78 = .ok (.iconst 1, 1) := by decide +kernel
theorem dX9_clause_79 : decode cX9_clause 79 = .ok (.iadd, 1) := by decide +kernel
theorem dX9_clause_80 : decode cX9_clause 80 = .ok (.iconst 4, 1) := by decide +kernel
theorem dX9_clause_81 : decode cX9_clause 81 = .ok (.iload_n 2, 1) := by decide +kernel
theorem dX9_clause_82 : decode cX9_clause 82 = .ok (.imul, 1) := by decide +kernel
theorem dX9_clause_83 : decode cX9_clause 83 = .ok (.iadd, 1) := by decide +kernel
theorem dX9_clause_84 : decode cX9_clause 84 = .ok (.istore_n 3, 1) := by decide +kernel
theorem dX9_clause_85 : decode cX9_clause 85 = .ok (.aload_n 0, 1) := by decide +kernel
theorem dX9_clause_86 : decode cX9_clause 86 = .ok (.getfield 16, 3) := by decide +kernel
theorem dX9_clause_89 : decode cX9_clause 89 = .ok (.iload_n 3, 1) := by decide +kernel
theorem dX9_clause_90 : decode cX9_clause 90 = .ok (.iload_n 1, 1) := by decide +kernel
theorem dX9_clause_91 : decode cX9_clause 91 = .ok (.iastore, 1) := by decide +kernel
theorem dX9_clause_92 : decode cX9_clause 92 = .ok (.aload_n 0, 1) := by decide +kernel
theorem dX9_clause_93 : decode cX9_clause 93 = .ok (.iload_n 1, 1) := by decide +kernel
theorem dX9_clause_94 : decode cX9_clause 94 = .ok (.iload_n 3, 1) := by decide +kernel
theorem dX9_clause_95 : decode cX9_clause 95 = .ok (.invokevirtual 270, 3) := by decide +kernel
theorem dX9_clause_98 : decode cX9_clause 98 = .ok (.istore 4, 2) := by decide +kernel
theorem dX9_clause_100 : decode cX9_clause 100 = .ok (.iload 4, 2) := by decide +kernel
theorem dX9_clause_102 : decode cX9_clause 102 = .ok (.ifCond .eq 6, 3) := by decide +kernel
theorem dX9_clause_105 : decode cX9_clause 105 = .ok (.iload 4, 2) := by decide +kernel
theorem dX9_clause_107 : decode cX9_clause 107 = .ok (.ireturn, 1) := by decide +kernel
theorem dX9_clause_108 : decode cX9_clause 108 = .ok (.aload_n 0, 1) := by decide +kernel
theorem dX9_clause_109 : decode cX9_clause 109 = .ok (.getfield 16, 3) := by decide +kernel
theorem dX9_clause_112 : decode cX9_clause 112 = .ok (.aload_n 0, 1) := by decide +kernel
theorem dX9_clause_113 : decode cX9_clause 113 = .ok (.getfield 158, 3) := by decide +kernel
theorem dX9_clause_116 : decode cX9_clause 116 = .ok (.dup2, 1) := by decide +kernel
theorem dX9_clause_117 : decode cX9_clause 117 = .ok (.iaload, 1) := by decide +kernel
theorem dX9_clause_118 : decode cX9_clause 118 = .ok (.iconst 1, 1) := by decide +kernel
theorem dX9_clause_119 : decode cX9_clause 119 = .ok (.iadd, 1) := by decide +kernel
theorem dX9_clause_120 : decode cX9_clause 120 = .ok (.iastore, 1) := by decide +kernel
theorem dX9_clause_121 : decode cX9_clause 121 = .ok (.aload_n 0, 1) := by decide +kernel
theorem dX9_clause_122 : decode cX9_clause 122 = .ok (.getfield 120, 3) := by decide +kernel
theorem dX9_clause_125 : decode cX9_clause 125 = .ok (.bipush 59, 2) := by decide +kernel
theorem dX9_clause_127 : decode cX9_clause 127 = .ok (.if_icmp .eq 5, 3) := by decide +kernel
theorem dX9_clause_130 : decode cX9_clause 130 = .ok (.iconst 1, 1) := by decide +kernel
theorem dX9_clause_131 : decode cX9_clause 131 = .ok (.ireturn, 1) := by decide +kernel
theorem dX9_clause_132 : decode cX9_clause 132 = .ok (.aload_n 0, 1) := by decide +kernel
theorem dX9_clause_133 : decode cX9_clause 133 = .ok (.invokevirtual 187, 3) := by decide +kernel
theorem dX9_clause_136 : decode cX9_clause 136 = .ok (.iconst 0, 1) := by decide +kernel
theorem dX9_clause_137 : decode cX9_clause 137 = .ok (.ireturn, 1) := by decide +kernel
theorem dX9_readText_0 : decode cX9_readText 0 = .ok (.aload_n 0, 1) := by decide +kernel
theorem dX9_readText_1 : decode cX9_readText 1 = .ok (.sipush 705, 3) := by decide +kernel
theorem dX9_readText_4 : decode cX9_readText 4 = .ok (.aload_n 0, 1) := by decide +kernel
theorem dX9_readText_5 : decode cX9_readText 5 = .ok (.getfield 7, 3) := by decide +kernel
theorem dX9_readText_8 : decode cX9_readText 8 = .ok (.iconst 1, 1) := by decide +kernel
theorem dX9_readText_9 : decode cX9_readText 9 = .ok (.iaload, 1) := by decide +kernel
theorem dX9_readText_10 : decode cX9_readText 10 = .ok (.imul, 1) := by decide +kernel
theorem dX9_readText_11 : decode cX9_readText 11 = .ok (.putfield 158, 3) := by decide +kernel
theorem dX9_readText_14 : decode cX9_readText 14 = .ok (.aload_n 0, 1) := by decide +kernel
theorem dX9_readText_15 : decode cX9_readText 15 = .ok (.getfield 16, 3) := by decide +kernel
theorem dX9_readText_18 : decode cX9_readText 18 = .ok (.aload_n 0, 1) := by decide +kernel
theorem dX9_readText_19 : decode cX9_readText 19 = .ok (.getfield 158, 3) := by decide +kernel
theorem dX9_readText_22 : decode cX9_readText 22 = .ok (.iconst 0, 1) := by decide +kernel
theorem dX9_readText_23 : decode cX9_readText 23 = .ok (.iastore, 1) := by decide +kernel
theorem dX9_readText_24 : decode cX9_readText 24 = .ok (.aload_n 0, 1) := by decide +kernel
theorem dX9_readText_25 : decode cX9_readText 25 = .ok (.iconst 0, 1) := by decide +kernel
theorem dX9_readText_26 : decode cX9_readText 26 = .ok (.putfield 161, 3) := by decide +kernel
theorem dX9_readText_29 : decode cX9_readText 29 = .ok (.aload_n 0, 1) := by decide +kernel
theorem dX9_readText_30 : decode cX9_readText 30 = .ok (.iconst 0, 1) := by decide +kernel
theorem dX9_readText_31 : decode cX9_readText 31 = .ok (.putfield 263, 3) := by decide +kernel
theorem dX9_readText_34 : decode cX9_readText 34 = .ok (.aload_n 0, 1) := by decide +kernel
theorem dX9_readText_35 : decode cX9_readText 35 = .ok (.iconst 0, 1) := by decide +kernel
theorem dX9_readText_36 : decode cX9_readText 36 = .ok (.putfield 110, 3) := by decide +kernel
theorem dX9_readText_39 : decode cX9_readText 39 = .ok (.aload_n 0, 1) := by decide +kernel
theorem dX9_readText_40 : decode cX9_readText 40 = .ok (.invokevirtual 187, 3) := by decide +kernel
theorem dX9_readText_43 : decode cX9_readText 43 = .ok (.aload_n 0, 1) := by decide +kernel
theorem dX9_readText_44 : decode cX9_readText 44 = .ok (.getfield 120, 3) := by decide +kernel
theorem dX9_readText_47 : decode cX9_readText 47 = .ok (.ifCond .eq 17, 3) := by decide +kernel
theorem dX9_readText_50 : decode cX9_readText 50 = .ok (.aload_n 0, 1) := by decide +kernel
theorem dX9_readText_51 : decode cX9_readText 51 = .ok (.invokevirtual 273, 3) := by decide +kernel
theorem dX9_readText_54 : decode cX9_readText 54 = .ok (.istore_n 1, 1) := by decide +kernel
theorem dX9_readText_55 : decode cX9_readText 55 = .ok (.iload_n 1, 1) := by decide +kernel
theorem dX9_readText_56 : decode cX9_readText 56 = .ok (.ifCond .eq 5, 3) := by decide +kernel
theorem dX9_readText_59 : decode cX9_readText 59 = .ok (.iload_n 1, 1) := by decide +kernel
theorem dX9_readText_60 : decode cX9_readText 60 = .ok (.ireturn, 1) := by decide +kernel
theorem dX9_readText_61 : decode cX9_readText 61 = .ok (.goto (-18), 3) := by decide +kernel
theorem dX9_readText_64 : decode cX9_readText 64 = .ok (.iconst 0, 1) := by decide +kernel
theorem dX9_readText_65 : decode cX9_readText 65 = .ok (.ireturn, 1) := by decide +kernel
theorem dX9_text_0 : decode cX9_text 0 = .ok (.aload_n 0, 1) := by decide +kernel
theorem dX9_text_1 : decode cX9_text 1 = .ok (.getfield 7, 3) := by decide +kernel
theorem dX9_text_4 : decode cX9_text 4 = .ok (.iconst 1, 1) := by decide +kernel
theorem dX9_text_5 : decode cX9_text 5 = .ok (.iaload, 1) := by decide +kernel
theorem dX9_text_6 : decode cX9_text 6 = .ok (.iconst 4, 1) := by decide +kernel
theorem dX9_text_7 : decode cX9_text 7 = .ok (.if_icmp .ne 5, 3) := by decide +kernel
theorem dX9_text_10 : decode cX9_text 10 = .ok (.iconst (-1), 1) := by decide +kernel
theorem dX9_text_11 : decode cX9_text 11 = .ok (.ireturn, 1) := by decide +kernel
theorem dX9_text_12 : decode cX9_text 12 = .ok (.aload_n 0, 1) := by decide +kernel
theorem dX9_text_13 : decode cX9_text 13 = .ok (.aload_n 0, 1) := by decide +kernel
theorem dX9_text_14 : decode cX9_text 14 = .ok (.invokevirtual 276, 3) := by decide +kernel
theorem dX9_text_17 : decode cX9_text 17 = .ok (.putfield 22, 3) := by decide +kernel
theorem dX9_text_20 : decode cX9_text 20 = .ok (.aload_n 0, 1) := by decide +kernel
theorem dX9_text_21 : decode cX9_text 21 = .ok (.aload_n 0, 1) := by decide +kernel
theorem dX9_text_22 : decode cX9_text 22 = .ok (.getfield 22, 3) := by decide +kernel
theorem dX9_text_25 : decode cX9_text 25 = .ok (.ifCond .ne 7, 3) := by decide +kernel
theorem dX9_text_28 : decode cX9_text 28 = .ok (.iconst (-1), 1) := by decide +kernel
theorem dX9_text_29 : decode cX9_text 29 = .ok (.goto 7, 3) := by decide +kernel
theorem dX9_text_32 : decode cX9_text 32 = .ok (.aload_n 0, 1) := by decide +kernel
theorem dX9_text_33 : decode cX9_text 33 = .ok (.getfield 117, 3) := by decide +kernel
theorem dX9_text_36 : decode cX9_text 36 = .ok (.putfield 26, 3) := by decide +kernel
theorem dX9_text_39 : decode cX9_text 39 = .ok (.aload_n 0, 1) := by decide +kernel
theorem dX9_text_40 : decode cX9_text 40 = .ok (.iconst 0, 1) := by decide +kernel
theorem dX9_text_41 : decode cX9_text 41 = .ok (.putfield 104, 3) := by decide +kernel
theorem dX9_text_44 : decode cX9_text 44 = .ok (.aload_n 0, 1) := by decide +kernel
theorem dX9_text_45 : decode cX9_text 45 = .ok (.getfield 22, 3) := by decide +kernel
theorem dX9_text_48 : decode cX9_text 48 = .ok (.ifCond .eq 5, 3) := by decide +kernel
theorem dX9_text_51 : decode cX9_text 51 = .ok (.iconst (-1), 1) := by decide +kernel
theorem dX9_text_52 : decode cX9_text 52 = .ok (.ireturn, 1) := by decide +kernel
theorem dX9_text_53 : decode cX9_text 53 = .ok (.aload_n 0, 1) := by decide +kernel
theorem dX9_text_54 : decode cX9_text 54 = .ok (.getfield 7, 3) := by decide +kernel
theorem dX9_text_57 : decode cX9_text 57 = .ok (.iconst 1, 1) := by decide +kernel
theorem dX9_text_58 : decode cX9_text 58 = .ok (.dup2, 1) := by decide +kernel
theorem dX9_text_59 : decode cX9_text 59 = .ok (.iaload, 1) := by decide +kernel
theorem dX9_text_60 : decode cX9_text 60 = .ok (.iconst 1, 1) := by decide +kernel
theorem dX9_text_61 : decode cX9_text 61 = .ok (.iadd, 1) := by decide +kernel
theorem dX9_text_62 : decode cX9_text 62 = .ok (.iastore, 1) := by decide +kernel
theorem dX9_text_63 : decode cX9_text 63 = .ok (.aload_n 0, 1) := by decide +kernel
theorem dX9_text_64 : decode cX9_text 64 = .ok (.getfield 7, 3) := by decide +kernel
theorem dX9_text_67 : decode cX9_text 67 = .ok (.iconst 1, 1) := by decide +kernel
theorem dX9_text_68 : decode cX9_text 68 = .ok (.iaload, 1) := by decide +kernel
theorem dX9_text_69 : decode cX9_text 69 = .ok (.iconst 1, 1) := by decide +kernel
theorem dX9_text_70 : decode cX9_text 70 = .ok (.isub, 1) := by decide +kernel
theorem dX9_text_71 : decode cX9_text 71 = .ok (.ireturn, 1) := by decide +kernel
theorem dX9_fault_0 : decode cX9_fault 0 = .ok (.iload_n 1, 1) := by decide +kernel
theorem dX9_fault_1 : decode cX9_fault 1 = .ok (.ifCond .ne 10, 3) := by decide +kernel
theorem dX9_fault_4 : decode cX9_fault 4 = .ok (.aload_n 0, 1) := by decide +kernel
theorem dX9_fault_5 : decode cX9_fault 5 = .ok (.getfield 22, 3) := by decide +kernel
theorem dX9_fault_8 : decode cX9_fault 8 = .ok (.goto 16, 3) := by decide +kernel
theorem dX9_fault_11 : decode cX9_fault 11 = .ok (.iload_n 1, 1) := by decide +kernel
theorem dX9_fault_12 : decode cX9_fault 12 = .ok (.iconst 1, 1) := by decide +kernel
theorem dX9_fault_13 : decode cX9_fault 13 = .ok (.if_icmp .ne 10, 3) := by decide +kernel
theorem dX9_fault_16 : decode cX9_fault 16 = .ok (.aload_n 0, 1) := by decide +kernel
theorem dX9_fault_17 : decode cX9_fault 17 = .ok (.getfield 26, 3) := by decide +kernel
theorem dX9_fault_20 : decode cX9_fault 20 = .ok (.goto 4, 3) := by decide +kernel
theorem dX9_fault_23 : decode cX9_fault 23 = .ok (.iconst (-1), 1) := by decide +kernel
theorem dX9_fault_24 : decode cX9_fault 24 = .ok (.ireturn, 1) := by decide +kernel
theorem dX9_by_0 : decode cX9_by 0 = .ok (.iload_n 1, 1) := by decide +kernel
theorem dX9_by_1 : decode cX9_by 1 = .ok (.iconst (-1), 1) := by decide +kernel
theorem dX9_by_2 : decode cX9_by 2 = .ok (.aload_n 0, 1) := by decide +kernel
theorem dX9_by_3 : decode cX9_by 3 = .ok (.getfield 7, 3) := by decide +kernel
theorem dX9_by_6 : decode cX9_by 6 = .ok (.iconst 1, 1) := by decide +kernel
theorem dX9_by_7 : decode cX9_by 7 = .ok (.iaload, 1) := by decide +kernel
theorem dX9_by_8 : decode cX9_by 8 = .ok (.iconst 1, 1) := by decide +kernel
theorem dX9_by_9 : decode cX9_by 9 = .ok (.isub, 1) := by decide +kernel
theorem dX9_by_10 : decode cX9_by 10 = .ok (.invokestatic 78, 3) := by decide +kernel
theorem dX9_by_13 : decode cX9_by 13 = .ok (.ifCond .ne 5, 3) := by decide +kernel
theorem dX9_by_16 : decode cX9_by 16 = .ok (.iconst 0, 1) := by decide +kernel
theorem dX9_by_17 : decode cX9_by 17 = .ok (.ireturn, 1) := by decide +kernel
theorem dX9_by_18 : decode cX9_by 18 = .ok (.aload_n 0, 1) := by decide +kernel
theorem dX9_by_19 : decode cX9_by 19 = .ok (.getfield 7, 3) := by decide +kernel
theorem dX9_by_22 : decode cX9_by 22 = .ok (.iconst 2, 1) := by decide +kernel
theorem dX9_by_23 : decode cX9_by 23 = .ok (.iload_n 1, 1) := by decide +kernel
theorem dX9_by_24 : decode cX9_by 24 = .ok (.iastore, 1) := by decide +kernel
theorem dX9_by_25 : decode cX9_by 25 = .ok (.iconst 1, 1) := by decide +kernel
theorem dX9_by_26 : decode cX9_by 26 = .ok (.ireturn, 1) := by decide +kernel
theorem dX9_clip_0 : decode cX9_clip 0 = .ok (.lload_n 0, 1) := by decide +kernel
theorem dX9_clip_1 : decode cX9_clip 1 = .ok (.ldc2_w 279, 3) := by decide +kernel
theorem dX9_clip_4 : decode cX9_clip 4 = .ok (.lcmp, 1) := by decide +kernel
theorem dX9_clip_5 : decode cX9_clip 5 = .ok (.ifCond .le 9, 3) := by decide +kernel
theorem dX9_clip_8 : decode cX9_clip 8 = .ok (.ldc2_w 279, 3) := by decide +kernel
theorem dX9_clip_11 : decode cX9_clip 11 = .ok (.goto 18, 3) := by decide +kernel
theorem dX9_clip_14 : decode cX9_clip 14 = .ok (.lload_n 0, 1) := by decide +kernel
theorem dX9_clip_15 : decode cX9_clip 15 = .ok (.ldc2_w 281, 3) := by decide +kernel
theorem dX9_clip_18 : decode cX9_clip 18 = .ok (.lcmp, 1) := by decide +kernel
theorem dX9_clip_19 : decode cX9_clip 19 = .ok (.ifCond .ge 9, 3) := by decide +kernel
theorem dX9_clip_22 : decode cX9_clip 22 = .ok (.ldc2_w 281, 3) := by decide +kernel
theorem dX9_clip_25 : decode cX9_clip 25 = .ok (.goto 4, 3) := by decide +kernel
theorem dX9_clip_28 : decode cX9_clip 28 = .ok (.lload_n 0, 1) := by decide +kernel
theorem dX9_clip_29 : decode cX9_clip 29 = .ok (.lreturn, 1) := by decide +kernel
section
variable {p : Program} {l : Launch} {e : Env} {R : Room} {s : State} {m : MethodId} {args : Array Value} {below : List Frame} {meth : Method} {c : Code} {Q : State → Prop} {V : g_V} {nf nl : Nat}
set_option maxRecDepth 100000 in
set_option maxHeartbeats 4000000 in
theorem b_X9_partOf (C : g_CX mG V p R s m args meth c cX9_partOf 2 (some .int) RX9 3 66) {res : Int} {M : g_M} (hR : g_RetI mG V p l e R s m args below meth c Q cX9_partOf .int res M) {a1 : Int} {H : Heap} {locs : List Loc} {ls : Array Slot} (h : m_X9_partOf a1 M = some res) (hp : g_PT mG V M s H locs) (hl : lv_has ls 2 [(0, .ref (V.2.2 0)), (1, .int (gI a1))]) : W p l e R s m args below meth c H locs 0 0 Q (F0 m 0 ls []) := by
  unfold m_X9_partOf at h
  refine lv_iload_n C.1 C.2.1 dX9_partOf_0 rfl (lv_at hl 1 rfl) ?_
  refine r_ite h (fun hv h => ?_) (fun hv40 h => ?_)
  · refine r_tswIn (tgt := 32) (v := 40) C hv dX9_partOf_1 (by decide) rfl (by decide) ?_
    refine lv_aload_n C.1 C.2.1 dX9_partOf_32 rfl (lv_at hl 0 rfl) ?_
    refine r_geti (t := 0) C hp mk_0 ms_0 mc_0 min_0 (j := 9) (by decide) rfl gw_1265 rfl dX9_partOf_33 ?_
    refine r_bipush C dX9_partOf_36 (by decide +kernel) ?_
    refine r_icmp_ne (tgt := 45) C h dX9_partOf_38 (by decide) (fun h => ?_) (fun h => ?_)
    · refine r_iconst C dX9_partOf_45 ?_
      cases h
      exact hR _ _ _ _ dX9_partOf_46 rfl hp
    · refine r_iconst C dX9_partOf_41 ?_
      refine r_goto (tgt := 46) C dX9_partOf_42 (by decide) ?_
      cases h
      exact hR _ _ _ _ dX9_partOf_46 rfl hp
  refine r_ite h (fun hv h => ?_) (fun hv41 h => ?_)
  · refine r_tswIn (tgt := 47) (v := 41) C hv dX9_partOf_1 (by decide) rfl (by decide) ?_
    refine r_jn (P := fun J => ∀  (H : Heap) (locs : List Loc) (ls : Array Slot), J  = some res → g_PT mG V M s H locs → lv_has ls 2 [] → W p l e R s m args below meth c H locs 0 0 Q (F0 m 77 ls [])) h ?_ (fun J11 hJ11 h => ?_)
    · intro  H locs ls h hp hl
      refine r_iconst C dX9_partOf_77 ?_
      cases h
      exact hR _ _ _ _ dX9_partOf_78 rfl hp
    refine lv_aload_n C.1 C.2.1 dX9_partOf_47 rfl (lv_at hl 0 rfl) ?_
    refine r_bipush C dX9_partOf_48 (by decide +kernel) ?_
    refine r_bipush C dX9_partOf_50 (by decide +kernel) ?_
    refine r_bipush C dX9_partOf_52 (by decide +kernel) ?_
    refine r_bipush C dX9_partOf_54 (by decide +kernel) ?_
    obtain ⟨x12, hr, h⟩ := bd_of h
    refine r_callSL (As := [.int (gI 116), .int (gI 104), .int (gI 101), .int (gI 110)]) (rest := [.ref (V.2.2 0)]) C hl.1 hp (c_X9_w4 l C.2.2.2.2.2.2.2.2.2.2.2 hr) gw_1454 gw_1455 cal_X9_w4 rfl rfl (Nat.le_of_ble_eq_true rfl) ⟨Nat.le_of_ble_eq_true rfl, Nat.le_of_ble_eq_true rfl⟩ dX9_partOf_56 (fun H locs hp => ?_)
    obtain ⟨x13, hr, h⟩ := bd_of h
    refine r_callVI (As := [.long (gJ x12)]) (rest := []) C hl.1 hp (c_X9_isWord l C.2.2.2.2.2.2.2.2.2.2.2 hr) gw_1463 gw_1465 gw_54 mk_0 ms_0 mc_0 cal_X9_isWord rfl rfl (Nat.le_of_ble_eq_true rfl) ⟨Nat.le_of_ble_eq_true rfl, Nat.le_of_ble_eq_true rfl⟩ dX9_partOf_59 (fun H locs hp => ?_)
    refine r_if_eq (tgt := 77) C h dX9_partOf_62 (by decide) (fun h => ?_) (fun h => ?_)
    · exact hJ11  _ _ _ h hp (lv_sub hl [] rfl)
    · refine lv_aload_n C.1 C.2.1 dX9_partOf_65 rfl (lv_at hl 0 rfl) ?_
      obtain ⟨x14, hr, h⟩ := bd_of h
      refine r_callVI (As := []) (rest := []) C hl.1 hp (c_X9_isCompared l C.2.2.2.2.2.2.2.2.2.2.2 hr) gw_1524 gw_1526 gw_67 mk_0 ms_0 mc_0 cal_X9_isCompared rfl rfl (Nat.le_of_ble_eq_true rfl) ⟨Nat.le_of_ble_eq_true rfl, Nat.le_of_ble_eq_true rfl⟩ dX9_partOf_66 (fun H locs hp => ?_)
      refine r_if_eq (tgt := 77) C h dX9_partOf_69 (by decide) (fun h => ?_) (fun h => ?_)
      · exact hJ11  _ _ _ h hp (lv_sub hl [] rfl)
      · refine r_bipush C dX9_partOf_72 (by decide +kernel) ?_
        refine r_goto (tgt := 78) C dX9_partOf_74 (by decide) ?_
        cases h
        exact hR _ _ _ _ dX9_partOf_78 rfl hp
  refine r_ite h (fun hv h => ?_) (fun hv42 h => ?_)
  · refine r_tswIn (tgt := 79) (v := 42) C hv dX9_partOf_1 (by decide) rfl (by decide) ?_
    refine lv_aload_n C.1 C.2.1 dX9_partOf_79 rfl (lv_at hl 0 rfl) ?_
    refine r_bipush C dX9_partOf_80 (by decide +kernel) ?_
    refine r_bipush C dX9_partOf_82 (by decide +kernel) ?_
    refine r_bipush C dX9_partOf_84 (by decide +kernel) ?_
    refine r_bipush C dX9_partOf_86 (by decide +kernel) ?_
    obtain ⟨x15, hr, h⟩ := bd_of h
    refine r_callSL (As := [.int (gI 101), .int (gI 108), .int (gI 115), .int (gI 101)]) (rest := [.ref (V.2.2 0)]) C hl.1 hp (c_X9_w4 l C.2.2.2.2.2.2.2.2.2.2.2 hr) gw_1454 gw_1455 cal_X9_w4 rfl rfl (Nat.le_of_ble_eq_true rfl) ⟨Nat.le_of_ble_eq_true rfl, Nat.le_of_ble_eq_true rfl⟩ dX9_partOf_88 (fun H locs hp => ?_)
    obtain ⟨x16, hr, h⟩ := bd_of h
    refine r_callVI (As := [.long (gJ x15)]) (rest := []) C hl.1 hp (c_X9_isWord l C.2.2.2.2.2.2.2.2.2.2.2 hr) gw_1463 gw_1465 gw_54 mk_0 ms_0 mc_0 cal_X9_isWord rfl rfl (Nat.le_of_ble_eq_true rfl) ⟨Nat.le_of_ble_eq_true rfl, Nat.le_of_ble_eq_true rfl⟩ dX9_partOf_91 (fun H locs hp => ?_)
    refine r_if_eq (tgt := 102) C h dX9_partOf_94 (by decide) (fun h => ?_) (fun h => ?_)
    · refine r_iconst C dX9_partOf_102 ?_
      cases h
      exact hR _ _ _ _ dX9_partOf_103 rfl hp
    · refine r_bipush C dX9_partOf_97 (by decide +kernel) ?_
      refine r_goto (tgt := 103) C dX9_partOf_99 (by decide) ?_
      cases h
      exact hR _ _ _ _ dX9_partOf_103 rfl hp
  refine r_ite h (fun hv h => ?_) (fun hv43 h => ?_)
  · refine r_tswIn (tgt := 104) (v := 43) C hv dX9_partOf_1 (by decide) rfl (by decide) ?_
    refine lv_aload_n C.1 C.2.1 dX9_partOf_104 rfl (lv_at hl 0 rfl) ?_
    refine r_bipush C dX9_partOf_105 (by decide +kernel) ?_
    refine r_bipush C dX9_partOf_107 (by decide +kernel) ?_
    refine r_bipush C dX9_partOf_109 (by decide +kernel) ?_
    obtain ⟨x17, hr, h⟩ := bd_of h
    refine r_callSL (As := [.int (gI 101), .int (gI 110), .int (gI 100)]) (rest := [.ref (V.2.2 0)]) C hl.1 hp (c_X9_w3 l C.2.2.2.2.2.2.2.2.2.2.2 hr) gw_1457 gw_1458 cal_X9_w3 rfl rfl (Nat.le_of_ble_eq_true rfl) ⟨Nat.le_of_ble_eq_true rfl, Nat.le_of_ble_eq_true rfl⟩ dX9_partOf_111 (fun H locs hp => ?_)
    obtain ⟨x18, hr, h⟩ := bd_of h
    refine r_callVI (As := [.long (gJ x17)]) (rest := []) C hl.1 hp (c_X9_isWord l C.2.2.2.2.2.2.2.2.2.2.2 hr) gw_1463 gw_1465 gw_54 mk_0 ms_0 mc_0 cal_X9_isWord rfl rfl (Nat.le_of_ble_eq_true rfl) ⟨Nat.le_of_ble_eq_true rfl, Nat.le_of_ble_eq_true rfl⟩ dX9_partOf_114 (fun H locs hp => ?_)
    refine r_if_eq (tgt := 124) C h dX9_partOf_117 (by decide) (fun h => ?_) (fun h => ?_)
    · refine r_iconst C dX9_partOf_124 ?_
      cases h
      exact hR _ _ _ _ dX9_partOf_125 rfl hp
    · refine r_iconst C dX9_partOf_120 ?_
      refine r_goto (tgt := 125) C dX9_partOf_121 (by decide) ?_
      cases h
      exact hR _ _ _ _ dX9_partOf_125 rfl hp
  have hd : W p l e R s m args below meth c H locs 0 0 Q (F0 m 126 ls []) := by
    refine r_iconst C dX9_partOf_126 ?_
    cases h
    exact hR _ _ _ _ dX9_partOf_127 rfl hp
  exact r_tswOut (tgt := 126) C dX9_partOf_1 (by omega) (by decide) hd
theorem c_X9_partOf (l : Launch) {V : g_V} (hok : g_ok mG V) {a1 : Int} {M : g_M} {x : Int} (h : m_X9_partOf a1 M = some x) : MetI mG V l yX9_partOf cX9_partOf 2 (some .int) 3 66 [.ref (V.2.2 0), .int (gI a1)] M x M :=
  g_metI hok cal_X9_partOf.2.2.2 rfl (Nat.le_of_ble_eq_true rfl) (@fun p e R s m args below meth c Q ls C hR hp hl => b_X9_partOf C hR h hp hl)
set_option maxRecDepth 100000 in
set_option maxHeartbeats 4000000 in
theorem b_X9_behindOne (C : g_CX mG V p R s m args meth c cX9_behindOne 4 (some .boolean) RX9 4 87) {res : Int × g_M} (hR : g_RetI mG V p l e R s m args below meth c Q cX9_behindOne .boolean res.1 res.2)  {M : g_M} {H : Heap} {locs : List Loc} {ls : Array Slot} (h : m_X9_behindOne M = some res) (hp : g_PT mG V M s H locs) (hl : lv_has ls 4 [(0, .ref (V.2.2 0))]) : W p l e R s m args below meth c H locs 0 0 Q (F0 m 0 ls []) := by
  unfold m_X9_behindOne at h
  refine lv_aload_n C.1 C.2.1 dX9_behindOne_0 rfl (lv_at hl 0 rfl) ?_
  obtain ⟨x11, hr, h⟩ := bd_of h
  refine r_callVI (As := []) (rest := []) C hl.1 hp (c_X9_betweenOf l C.2.2.2.2.2.2.2.2.2.2.2 hr) gw_1512 gw_1514 gw_64 mk_0 ms_0 mc_0 cal_X9_betweenOf rfl rfl (Nat.le_of_ble_eq_true rfl) ⟨Nat.le_of_ble_eq_true rfl, Nat.le_of_ble_eq_true rfl⟩ dX9_behindOne_1 (fun H locs hp => ?_)
  refine r_istore_n (lv' := fun x12 => [(1, .int (gI x12)), (0, .ref (V.2.2 0))]) C h dX9_behindOne_4 rfl hl (by decide) (fun _ => rfl) (fun x12 ls h hl => ?_)
  refine lv_iload_n C.1 C.2.1 dX9_behindOne_5 rfl (lv_at hl 0 rfl) ?_
  refine r_if_lt (tgt := 60) C h dX9_behindOne_6 (by decide) (fun h => ?_) (fun h => ?_)
  · refine lv_aload_n C.1 C.2.1 dX9_behindOne_60 rfl (lv_at hl 1 rfl) ?_
    obtain ⟨x13, hr, h⟩ := bd_of h
    refine r_callVI (As := []) (rest := []) C hl.1 hp (c_X9_openNow l C.2.2.2.2.2.2.2.2.2.2.2 hr) gw_1516 gw_1518 gw_65 mk_0 ms_0 mc_0 cal_X9_openNow rfl rfl (Nat.le_of_ble_eq_true rfl) ⟨Nat.le_of_ble_eq_true rfl, Nat.le_of_ble_eq_true rfl⟩ dX9_behindOne_61 (fun H locs hp => ?_)
    refine r_istore_n (lv' := fun x14 => [(2, .int (gI x14)), (1, .int (gI x12)), (0, .ref (V.2.2 0))]) C h dX9_behindOne_64 rfl hl (by decide) (fun _ => rfl) (fun x14 ls h hl => ?_)
    refine lv_aload_n C.1 C.2.1 dX9_behindOne_65 rfl (lv_at hl 2 rfl) ?_
    refine lv_iload_n C.1 C.2.1 dX9_behindOne_66 rfl (lv_at hl 0 rfl) ?_
    obtain ⟨x15, hr, h⟩ := bd_of h
    refine r_callVI (As := [.int (gI x14)]) (rest := []) C hl.1 hp (c_X9_partOf l C.2.2.2.2.2.2.2.2.2.2.2 hr) gw_1543 gw_1545 gw_71 mk_0 ms_0 mc_0 cal_X9_partOf rfl rfl (Nat.le_of_ble_eq_true rfl) ⟨Nat.le_of_ble_eq_true rfl, Nat.le_of_ble_eq_true rfl⟩ dX9_behindOne_67 (fun H locs hp => ?_)
    refine r_istore_n (lv' := fun x16 => [(3, .int (gI x16)), (2, .int (gI x14)), (1, .int (gI x12)), (0, .ref (V.2.2 0))]) C h dX9_behindOne_70 rfl hl (by decide) (fun _ => rfl) (fun x16 ls h hl => ?_)
    refine lv_iload_n C.1 C.2.1 dX9_behindOne_71 rfl (lv_at hl 0 rfl) ?_
    refine r_if_ge (tgt := 77) C h dX9_behindOne_72 (by decide) (fun h => ?_) (fun h => ?_)
    · refine lv_aload_n C.1 C.2.1 dX9_behindOne_77 rfl (lv_at hl 3 rfl) ?_
      refine r_iconst C dX9_behindOne_78 ?_
      obtain ⟨M17, hr, h⟩ := bd_of h
      refine r_callVV (As := [.int (gI 1)]) (rest := []) C hl.1 hp (c_X9_settle l C.2.2.2.2.2.2.2.2.2.2.2 hr) gw_1535 gw_1537 gw_69 mk_0 ms_0 mc_0 cal_X9_settle rfl rfl (Nat.le_of_ble_eq_true rfl) ⟨Nat.le_of_ble_eq_true rfl, Nat.le_of_ble_eq_true rfl⟩ dX9_behindOne_79 (fun H locs hp => ?_)
      refine lv_aload_n C.1 C.2.1 dX9_behindOne_82 rfl (lv_at hl 3 rfl) ?_
      obtain ⟨M18, hr, h⟩ := bd_of h
      refine r_callVV (As := []) (rest := []) C hl.1 hp (c_X9_nextToken l C.2.2.2.2.2.2.2.2.2.2.2 hr) gw_1427 gw_1429 gw_50 mk_0 ms_0 mc_0 cal_X9_nextToken rfl rfl (Nat.le_of_ble_eq_true rfl) ⟨Nat.le_of_ble_eq_true rfl, Nat.le_of_ble_eq_true rfl⟩ dX9_behindOne_83 (fun H locs hp => ?_)
      refine lv_iload_n C.1 C.2.1 dX9_behindOne_86 rfl (lv_at hl 0 rfl) ?_
      refine r_if_le (tgt := 107) C h dX9_behindOne_87 (by decide) (fun h => ?_) (fun h => ?_)
      · refine r_jn (P := fun J => ∀ (M23 : g_M) (H : Heap) (locs : List Loc) (ls : Array Slot), J M23 = some res → g_PT mG V M23 s H locs → lv_has ls 4 [(0, .ref (V.2.2 0))] → W p l e R s m args below meth c H locs 0 0 Q (F0 m 139 ls [])) h ?_ (fun J19 hJ19 h => ?_)
        · intro M23 H locs ls h hp hl
          refine lv_aload_n C.1 C.2.1 dX9_behindOne_139 rfl (lv_at hl 0 rfl) ?_
          refine r_bipush C dX9_behindOne_140 (by decide +kernel) ?_
          obtain ⟨M24, hr, h⟩ := bd_of h
          refine r_callVV (As := [.int (gI 7)]) (rest := []) C hl.1 hp (c_X9_settle l C.2.2.2.2.2.2.2.2.2.2.2 hr) gw_1535 gw_1537 gw_69 mk_0 ms_0 mc_0 cal_X9_settle rfl rfl (Nat.le_of_ble_eq_true rfl) ⟨Nat.le_of_ble_eq_true rfl, Nat.le_of_ble_eq_true rfl⟩ dX9_behindOne_142 (fun H locs hp => ?_)
          refine r_iconst C dX9_behindOne_145 ?_
          cases h
          exact hR _ _ _ _ dX9_behindOne_146 g_nz1 hp
        refine lv_aload_n C.1 C.2.1 dX9_behindOne_107 rfl (lv_at hl 3 rfl) ?_
        refine lv_dup C.1 C.2.1 dX9_behindOne_108 rfl ?_
        refine r_geti (t := 0) C hp mk_0 ms_0 mc_0 min_0 (j := 17) (by decide) rfl gw_1273 rfl dX9_behindOne_109 ?_
        refine r_iconst C dX9_behindOne_112 ?_
        refine r_isub C dX9_behindOne_113 ?_
        refine r_puti C hp h mk_0 ms_0 mc_0 min_0 tyX9 tyX9_ok nmX9 (j := 17) (by decide) rfl gw_1273 rfl rfl rfl dX9_behindOne_114 (fun M20 H locs h hp => ?_)
        refine lv_aload_n C.1 C.2.1 dX9_behindOne_117 rfl (lv_at hl 3 rfl) ?_
        refine lv_dup C.1 C.2.1 dX9_behindOne_118 rfl ?_
        refine r_geti (t := 0) C hp mk_0 ms_0 mc_0 min_0 (j := 16) (by decide) rfl gw_1272 rfl dX9_behindOne_119 ?_
        refine r_iconst C dX9_behindOne_122 ?_
        refine r_isub C dX9_behindOne_123 ?_
        refine r_puti C hp h mk_0 ms_0 mc_0 min_0 tyX9 tyX9_ok nmX9 (j := 16) (by decide) rfl gw_1272 rfl rfl rfl dX9_behindOne_124 (fun M21 H locs h hp => ?_)
        refine lv_iload_n C.1 C.2.1 dX9_behindOne_127 rfl (lv_at hl 1 rfl) ?_
        refine r_bipush C dX9_behindOne_128 (by decide +kernel) ?_
        refine r_icmp_ne (tgt := 139) C h dX9_behindOne_130 (by decide) (fun h => ?_) (fun h => ?_)
        · exact hJ19 _ _ _ _ h hp (lv_sub hl [3] rfl)
        · refine lv_aload_n C.1 C.2.1 dX9_behindOne_133 rfl (lv_at hl 3 rfl) ?_
          refine r_iconst C dX9_behindOne_134 ?_
          refine r_iconst C dX9_behindOne_135 ?_
          obtain ⟨M22, hr, h⟩ := bd_of h
          refine r_callVV (As := [.int (gI 3), .int (gI 0)]) (rest := []) C hl.1 hp (c_X9_emit l C.2.2.2.2.2.2.2.2.2.2.2 hr) gw_1539 gw_1541 gw_70 mk_0 ms_0 mc_0 cal_X9_emit rfl rfl (Nat.le_of_ble_eq_true rfl) ⟨Nat.le_of_ble_eq_true rfl, Nat.le_of_ble_eq_true rfl⟩ dX9_behindOne_136 (fun H locs hp => ?_)
          exact hJ19 _ _ _ _ h hp (lv_sub hl [3] rfl)
      · refine lv_aload_n C.1 C.2.1 dX9_behindOne_90 rfl (lv_at hl 3 rfl) ?_
        refine r_getr (t := 5) C hp mk_0 ms_0 mc_0 min_0 (j := 15) (by decide) rfl gw_1271 rfl dX9_behindOne_91 ?_
        refine lv_aload_n C.1 C.2.1 dX9_behindOne_94 rfl (lv_at hl 3 rfl) ?_
        obtain ⟨x25, hr, h⟩ := bd_of h
        refine r_callVI (As := []) (rest := [.ref (V.2.2 5)]) C hl.1 hp (c_X9_openAt l C.2.2.2.2.2.2.2.2.2.2.2 hr) gw_1520 gw_1522 gw_66 mk_0 ms_0 mc_0 cal_X9_openAt rfl rfl (Nat.le_of_ble_eq_true rfl) ⟨Nat.le_of_ble_eq_true rfl, Nat.le_of_ble_eq_true rfl⟩ dX9_behindOne_95 (fun H locs hp => ?_)
        refine lv_iload_n C.1 C.2.1 dX9_behindOne_98 rfl (lv_at hl 0 rfl) ?_
        refine r_iast C hp h mk_5 ms_5 dX9_behindOne_99 (fun M26 H locs h hp => ?_)
        refine lv_aload_n C.1 C.2.1 dX9_behindOne_100 rfl (lv_at hl 3 rfl) ?_
        refine r_iconst C dX9_behindOne_101 ?_
        refine r_putz C hp h mk_0 ms_0 mc_0 min_0 tyX9 tyX9_ok nmX9 (j := 18) (by decide) rfl gw_1274 rfl rfl rfl dX9_behindOne_102 (fun M27 H locs h hp => ?_)
        refine r_iconst C dX9_behindOne_105 ?_
        cases h
        exact hR _ _ _ _ dX9_behindOne_106 g_nz1 hp
    · refine r_iconst C dX9_behindOne_75 ?_
      cases h
      exact hR _ _ _ _ dX9_behindOne_76 g_nz0 hp
  · refine r_jn (P := fun J => ∀ (x31 : Int) (H : Heap) (locs : List Loc) (ls : Array Slot), J x31 = some res → g_PT mG V M s H locs → lv_has ls 4 [(0, .ref (V.2.2 0)), (1, .int (gI x12))] → W p l e R s m args below meth c H locs 0 0 Q (F0 m 26 ls [.int (gI x31), .ref (V.2.2 0)])) h ?_ (fun J28 hJ28 h => ?_)
    · intro x31 H locs ls h hp hl
      obtain ⟨M32, hr, h⟩ := bd_of h
      refine r_callVV (As := [.int (gI x31)]) (rest := []) C hl.1 hp (c_X9_settle l C.2.2.2.2.2.2.2.2.2.2.2 hr) gw_1535 gw_1537 gw_69 mk_0 ms_0 mc_0 cal_X9_settle rfl rfl (Nat.le_of_ble_eq_true rfl) ⟨Nat.le_of_ble_eq_true rfl, Nat.le_of_ble_eq_true rfl⟩ dX9_behindOne_26 (fun H locs hp => ?_)
      refine lv_aload_n C.1 C.2.1 dX9_behindOne_29 rfl (lv_at hl 0 rfl) ?_
      refine r_getr (t := 5) C hp mk_0 ms_0 mc_0 min_0 (j := 15) (by decide) rfl gw_1271 rfl dX9_behindOne_30 ?_
      refine lv_aload_n C.1 C.2.1 dX9_behindOne_33 rfl (lv_at hl 0 rfl) ?_
      refine r_geti (t := 0) C hp mk_0 ms_0 mc_0 min_0 (j := 16) (by decide) rfl gw_1272 rfl dX9_behindOne_34 ?_
      refine lv_iload_n C.1 C.2.1 dX9_behindOne_37 rfl (lv_at hl 1 rfl) ?_
      refine r_iast C hp h mk_5 ms_5 dX9_behindOne_38 (fun M33 H locs h hp => ?_)
      refine lv_aload_n C.1 C.2.1 dX9_behindOne_39 rfl (lv_at hl 0 rfl) ?_
      refine lv_dup C.1 C.2.1 dX9_behindOne_40 rfl ?_
      refine r_geti (t := 0) C hp mk_0 ms_0 mc_0 min_0 (j := 16) (by decide) rfl gw_1272 rfl dX9_behindOne_41 ?_
      refine r_iconst C dX9_behindOne_44 ?_
      refine r_iadd C dX9_behindOne_45 ?_
      refine r_puti C hp h mk_0 ms_0 mc_0 min_0 tyX9 tyX9_ok nmX9 (j := 16) (by decide) rfl gw_1272 rfl rfl rfl dX9_behindOne_46 (fun M34 H locs h hp => ?_)
      refine lv_aload_n C.1 C.2.1 dX9_behindOne_49 rfl (lv_at hl 0 rfl) ?_
      refine r_iconst C dX9_behindOne_50 ?_
      refine r_putz C hp h mk_0 ms_0 mc_0 min_0 tyX9 tyX9_ok nmX9 (j := 18) (by decide) rfl gw_1274 rfl rfl rfl dX9_behindOne_51 (fun M35 H locs h hp => ?_)
      refine lv_aload_n C.1 C.2.1 dX9_behindOne_54 rfl (lv_at hl 0 rfl) ?_
      obtain ⟨M36, hr, h⟩ := bd_of h
      refine r_callVV (As := []) (rest := []) C hl.1 hp (c_X9_nextToken l C.2.2.2.2.2.2.2.2.2.2.2 hr) gw_1427 gw_1429 gw_50 mk_0 ms_0 mc_0 cal_X9_nextToken rfl rfl (Nat.le_of_ble_eq_true rfl) ⟨Nat.le_of_ble_eq_true rfl, Nat.le_of_ble_eq_true rfl⟩ dX9_behindOne_55 (fun H locs hp => ?_)
      refine r_iconst C dX9_behindOne_58 ?_
      cases h
      exact hR _ _ _ _ dX9_behindOne_59 g_nz1 hp
    refine lv_aload_n C.1 C.2.1 dX9_behindOne_9 rfl (lv_at hl 1 rfl) ?_
    refine lv_iload_n C.1 C.2.1 dX9_behindOne_10 rfl (lv_at hl 0 rfl) ?_
    obtain ⟨x29, hr, h⟩ := bd_of h
    refine r_callSI (As := [.int (gI x12)]) (rest := [.ref (V.2.2 0)]) C hl.1 hp (c_X9_rank l C.2.2.2.2.2.2.2.2.2.2.2 hr) gw_1528 gw_1529 cal_X9_rank rfl rfl (Nat.le_of_ble_eq_true rfl) ⟨Nat.le_of_ble_eq_true rfl, Nat.le_of_ble_eq_true rfl⟩ dX9_behindOne_11 (fun H locs hp => ?_)
    refine r_iconst C dX9_behindOne_14 ?_
    refine r_icmp_ne (tgt := 22) C h dX9_behindOne_15 (by decide) (fun h => ?_) (fun h => ?_)
    · refine lv_iload_n C.1 C.2.1 dX9_behindOne_22 rfl (lv_at hl 0 rfl) ?_
      obtain ⟨x30, hr, h⟩ := bd_of h
      refine r_callSI (As := [.int (gI x12)]) (rest := [.ref (V.2.2 0)]) C hl.1 hp (c_X9_rank l C.2.2.2.2.2.2.2.2.2.2.2 hr) gw_1528 gw_1529 cal_X9_rank rfl rfl (Nat.le_of_ble_eq_true rfl) ⟨Nat.le_of_ble_eq_true rfl, Nat.le_of_ble_eq_true rfl⟩ dX9_behindOne_23 (fun H locs hp => ?_)
      exact hJ28 _ _ _ _ h hp (lv_sub hl [1, 0] rfl)
    · refine r_iconst C dX9_behindOne_18 ?_
      refine r_goto (tgt := 26) C dX9_behindOne_19 (by decide) ?_
      exact hJ28 _ _ _ _ h hp (lv_sub hl [1, 0] rfl)
theorem c_X9_behindOne (l : Launch) {V : g_V} (hok : g_ok mG V)  {M : g_M} {x : Int} {M2 : g_M} (h : m_X9_behindOne M = some (x, M2)) : MetI mG V l yX9_behindOne cX9_behindOne 4 (some .boolean) 4 87 [.ref (V.2.2 0)] M x M2 :=
  g_metI hok cal_X9_behindOne.2.2.2 rfl (Nat.le_of_ble_eq_true rfl) (@fun p e R s m args below meth c Q ls C hR hp hl => b_X9_behindOne C hR h hp hl)
set_option maxRecDepth 100000 in
set_option maxHeartbeats 4000000 in
theorem w_X9_summed_L15 (C : g_CX mG V p R s m args meth c cX9_summed 2 (some .int) RX9 6 131) {res : Int × g_M} (hR : g_RetI mG V p l e R s m args below meth c Q cX9_summed .int res.1 res.2)  (k15 : g_M → Option (Int × g_M)) (hk15 : ∀ (M21 : g_M) (H : Heap) (locs : List Loc) (ls : Array Slot), k15 M21 = some res → g_PT mG V M21 s H locs → lv_has ls 2 [(0, .ref (V.2.2 0))] → W p l e R s m args below meth c H locs 0 0 Q (F0 m 32 ls [])) : ∀ (f : Nat)  (M14 : g_M) (H : Heap) (locs : List Loc) (ls : Array Slot), m_X9_summed_L15 k15 f M14 = some res → g_PT mG V M14 s H locs → lv_has ls 2 [(0, .ref (V.2.2 0))] → W p l e R s m args below meth c H locs 0 0 Q (F0 m 15 ls []) := by
  intro f
  induction f with
  | zero => intro M14 H locs ls h hp hl; cases h
  | succ f ih =>
    intro M14 H locs ls h hp hl
    rw [m_X9_summed_L15] at h
    refine lv_aload_n C.1 C.2.1 dX9_summed_15 rfl (lv_at hl 0 rfl) ?_
    refine r_geti (t := 0) C hp mk_0 ms_0 mc_0 min_0 (j := 18) (by decide) rfl gw_1274 rfl dX9_summed_16 ?_
    refine r_if_eq (tgt := 48) C h dX9_summed_19 (by decide) (fun h => ?_) (fun h => ?_)
    · refine lv_aload_n C.1 C.2.1 dX9_summed_48 rfl (lv_at hl 0 rfl) ?_
      obtain ⟨x16, M17, hr, h⟩ := bW_of h
      refine r_callVI (As := []) (rest := []) C hl.1 hp (c_X9_beginOne l C.2.2.2.2.2.2.2.2.2.2.2 hr) gw_1547 gw_1549 gw_72 mk_0 ms_0 mc_0 cal_X9_beginOne rfl rfl (Nat.le_of_ble_eq_true rfl) ⟨Nat.le_of_ble_eq_true rfl, Nat.le_of_ble_eq_true rfl⟩ dX9_summed_49 (fun H locs hp => ?_)
      refine r_istore_n (lv' := fun x18 => [(1, .int (gI x18)), (0, .ref (V.2.2 0))]) C h dX9_summed_52 rfl hl (by decide) (fun _ => rfl) (fun x18 ls h hl => ?_)
      refine lv_iload_n C.1 C.2.1 dX9_summed_53 rfl (lv_at hl 0 rfl) ?_
      refine r_if_eq (tgt := 59) C h dX9_summed_54 (by decide) (fun h => ?_) (fun h => ?_)
      · refine r_goto (tgt := 15) C dX9_summed_59 (by decide) ?_
        exact ih _ _ _ _ h hp (lv_sub hl [1] rfl)
      · refine lv_iload_n C.1 C.2.1 dX9_summed_57 rfl (lv_at hl 0 rfl) ?_
        cases h
        exact hR _ _ _ _ dX9_summed_58 rfl hp
    · refine lv_aload_n C.1 C.2.1 dX9_summed_22 rfl (lv_at hl 0 rfl) ?_
      obtain ⟨x19, M20, hr, h⟩ := bW_of h
      refine r_callVI (As := []) (rest := []) C hl.1 hp (c_X9_behindOne l C.2.2.2.2.2.2.2.2.2.2.2 hr) gw_1508 gw_1510 gw_63 mk_0 ms_0 mc_0 cal_X9_behindOne rfl rfl (Nat.le_of_ble_eq_true rfl) ⟨Nat.le_of_ble_eq_true rfl, Nat.le_of_ble_eq_true rfl⟩ dX9_summed_23 (fun H locs hp => ?_)
      refine r_if_eq (tgt := 32) C h dX9_summed_26 (by decide) (fun h => ?_) (fun h => ?_)
      · exact hk15 _ _ _ _ h hp hl
      · refine r_goto (tgt := 15) C dX9_summed_29 (by decide) ?_
        exact ih _ _ _ _ h hp hl
set_option maxRecDepth 100000 in
set_option maxHeartbeats 4000000 in
theorem b_X9_summed (C : g_CX mG V p R s m args meth c cX9_summed 2 (some .int) RX9 6 131) {res : Int × g_M} (hR : g_RetI mG V p l e R s m args below meth c Q cX9_summed .int res.1 res.2)  {M : g_M} {H : Heap} {locs : List Loc} {ls : Array Slot} (h : m_X9_summed M = some res) (hp : g_PT mG V M s H locs) (hl : lv_has ls 2 [(0, .ref (V.2.2 0))]) : W p l e R s m args below meth c H locs 0 0 Q (F0 m 0 ls []) := by
  unfold m_X9_summed at h
  refine lv_aload_n C.1 C.2.1 dX9_summed_0 rfl (lv_at hl 0 rfl) ?_
  refine r_iconst C dX9_summed_1 ?_
  refine r_puti C hp h mk_0 ms_0 mc_0 min_0 tyX9 tyX9_ok nmX9 (j := 16) (by decide) rfl gw_1272 rfl rfl rfl dX9_summed_2 (fun M11 H locs h hp => ?_)
  refine lv_aload_n C.1 C.2.1 dX9_summed_5 rfl (lv_at hl 0 rfl) ?_
  refine r_iconst C dX9_summed_6 ?_
  refine r_puti C hp h mk_0 ms_0 mc_0 min_0 tyX9 tyX9_ok nmX9 (j := 17) (by decide) rfl gw_1273 rfl rfl rfl dX9_summed_7 (fun M12 H locs h hp => ?_)
  refine lv_aload_n C.1 C.2.1 dX9_summed_10 rfl (lv_at hl 0 rfl) ?_
  refine r_iconst C dX9_summed_11 ?_
  refine r_putz C hp h mk_0 ms_0 mc_0 min_0 tyX9 tyX9_ok nmX9 (j := 18) (by decide) rfl gw_1274 rfl rfl rfl dX9_summed_12 (fun M13 H locs h hp => ?_)
  refine w_X9_summed_L15 C hR _ ?_ _ _ H locs ls h hp hl
  · intro M22 H locs ls h hp hl
    refine lv_aload_n C.1 C.2.1 dX9_summed_32 rfl (lv_at hl 0 rfl) ?_
    obtain ⟨x23, hr, h⟩ := bd_of h
    refine r_callVI (As := []) (rest := []) C hl.1 hp (c_X9_openNow l C.2.2.2.2.2.2.2.2.2.2.2 hr) gw_1516 gw_1518 gw_65 mk_0 ms_0 mc_0 cal_X9_openNow rfl rfl (Nat.le_of_ble_eq_true rfl) ⟨Nat.le_of_ble_eq_true rfl, Nat.le_of_ble_eq_true rfl⟩ dX9_summed_33 (fun H locs hp => ?_)
    refine r_if_lt (tgt := 41) C h dX9_summed_36 (by decide) (fun h => ?_) (fun h => ?_)
    · refine lv_aload_n C.1 C.2.1 dX9_summed_41 rfl (lv_at hl 0 rfl) ?_
      refine r_iconst C dX9_summed_42 ?_
      obtain ⟨M24, hr, h⟩ := bd_of h
      refine r_callVV (As := [.int (gI 1)]) (rest := []) C hl.1 hp (c_X9_settle l C.2.2.2.2.2.2.2.2.2.2.2 hr) gw_1535 gw_1537 gw_69 mk_0 ms_0 mc_0 cal_X9_settle rfl rfl (Nat.le_of_ble_eq_true rfl) ⟨Nat.le_of_ble_eq_true rfl, Nat.le_of_ble_eq_true rfl⟩ dX9_summed_43 (fun H locs hp => ?_)
      refine r_iconst C dX9_summed_46 ?_
      cases h
      exact hR _ _ _ _ dX9_summed_47 rfl hp
    · refine r_iconst C dX9_summed_39 ?_
      cases h
      exact hR _ _ _ _ dX9_summed_40 rfl hp
theorem c_X9_summed (l : Launch) {V : g_V} (hok : g_ok mG V)  {M : g_M} {x : Int} {M2 : g_M} (h : m_X9_summed M = some (x, M2)) : MetI mG V l yX9_summed cX9_summed 2 (some .int) 6 131 [.ref (V.2.2 0)] M x M2 :=
  g_metI hok cal_X9_summed.2.2.2 rfl (Nat.le_of_ble_eq_true rfl) (@fun p e R s m args below meth c Q ls C hR hp hl => b_X9_summed C hR h hp hl)
set_option maxRecDepth 100000 in
set_option maxHeartbeats 4000000 in
theorem b_X9_figure (C : g_CX mG V p R s m args meth c cX9_figure 4 (some .int) RX9 2 42) {res : Int × g_M} (hR : g_RetI mG V p l e R s m args below meth c Q cX9_figure .int res.1 res.2) {a1 : Int} {a2 : Int} {a3 : Int} {M : g_M} {H : Heap} {locs : List Loc} {ls : Array Slot} (h : m_X9_figure a1 a2 a3 M = some res) (hp : g_PT mG V M s H locs) (hl : lv_has ls 4 [(0, .ref (V.2.2 0)), (1, .int (gI a1)), (2, .int (gI a2)), (3, .int (gI a3))]) : W p l e R s m args below meth c H locs 0 0 Q (F0 m 0 ls []) := by
  unfold m_X9_figure at h
  refine lv_aload_n C.1 C.2.1 dX9_figure_0 rfl (lv_at hl 0 rfl) ?_
  refine r_geti (t := 0) C hp mk_0 ms_0 mc_0 min_0 (j := 9) (by decide) rfl gw_1265 rfl dX9_figure_1 ?_
  refine r_iconst C dX9_figure_4 ?_
  refine r_icmp_eq (tgt := 10) C h dX9_figure_5 (by decide) (fun h => ?_) (fun h => ?_)
  · refine lv_aload_n C.1 C.2.1 dX9_figure_10 rfl (lv_at hl 0 rfl) ?_
    refine r_geti (t := 0) C hp mk_0 ms_0 mc_0 min_0 (j := 10) (by decide) rfl gw_1266 rfl dX9_figure_11 ?_
    refine lv_iload_n C.1 C.2.1 dX9_figure_14 rfl (lv_at hl 2 rfl) ?_
    refine lv_iload_n C.1 C.2.1 dX9_figure_15 rfl (lv_at hl 3 rfl) ?_
    obtain ⟨x11, hr, h⟩ := bd_of h
    refine r_callSI (As := [.int (gI (M 0 10)), .int (gI a2), .int (gI a3)]) (rest := []) C hl.1 hp (c_X9_isIn l C.2.2.2.2.2.2.2.2.2.2.2 hr) gw_1378 gw_1379 cal_X9_isIn rfl rfl (Nat.le_of_ble_eq_true rfl) ⟨Nat.le_of_ble_eq_true rfl, Nat.le_of_ble_eq_true rfl⟩ dX9_figure_16 (fun H locs hp => ?_)
    refine r_if_ne (tgt := 24) C h dX9_figure_19 (by decide) (fun h => ?_) (fun h => ?_)
    · refine lv_aload_n C.1 C.2.1 dX9_figure_24 rfl (lv_at hl 0 rfl) ?_
      refine r_getr (t := 3) C hp mk_0 ms_0 mc_0 min_0 (j := 2) (by decide) rfl gw_1258 rfl dX9_figure_25 ?_
      refine lv_iload_n C.1 C.2.1 dX9_figure_28 rfl (lv_at hl 1 rfl) ?_
      refine lv_aload_n C.1 C.2.1 dX9_figure_29 rfl (lv_at hl 0 rfl) ?_
      refine r_geti (t := 0) C hp mk_0 ms_0 mc_0 min_0 (j := 10) (by decide) rfl gw_1266 rfl dX9_figure_30 ?_
      refine r_iast C hp h mk_3 ms_3 dX9_figure_33 (fun M12 H locs h hp => ?_)
      refine lv_aload_n C.1 C.2.1 dX9_figure_34 rfl (lv_at hl 0 rfl) ?_
      obtain ⟨M13, hr, h⟩ := bd_of h
      refine r_callVV (As := []) (rest := []) C hl.1 hp (c_X9_nextToken l C.2.2.2.2.2.2.2.2.2.2.2 hr) gw_1427 gw_1429 gw_50 mk_0 ms_0 mc_0 cal_X9_nextToken rfl rfl (Nat.le_of_ble_eq_true rfl) ⟨Nat.le_of_ble_eq_true rfl, Nat.le_of_ble_eq_true rfl⟩ dX9_figure_35 (fun H locs hp => ?_)
      refine r_iconst C dX9_figure_38 ?_
      cases h
      exact hR _ _ _ _ dX9_figure_39 rfl hp
    · refine r_iconst C dX9_figure_22 ?_
      cases h
      exact hR _ _ _ _ dX9_figure_23 rfl hp
  · refine r_iconst C dX9_figure_8 ?_
    cases h
    exact hR _ _ _ _ dX9_figure_9 rfl hp
theorem c_X9_figure (l : Launch) {V : g_V} (hok : g_ok mG V) {a1 : Int} {a2 : Int} {a3 : Int} {M : g_M} {x : Int} {M2 : g_M} (h : m_X9_figure a1 a2 a3 M = some (x, M2)) : MetI mG V l yX9_figure cX9_figure 4 (some .int) 2 42 [.ref (V.2.2 0), .int (gI a1), .int (gI a2), .int (gI a3)] M x M2 :=
  g_metI hok cal_X9_figure.2.2.2 rfl (Nat.le_of_ble_eq_true rfl) (@fun p e R s m args below meth c Q ls C hR hp hl => b_X9_figure C hR h hp hl)
set_option maxRecDepth 100000 in
set_option maxHeartbeats 4000000 in
theorem b_X9_worded (C : g_CX mG V p R s m args meth c cX9_worded 6 (some .int) RX9 3 65) {res : Int × g_M} (hR : g_RetI mG V p l e R s m args below meth c Q cX9_worded .int res.1 res.2) {a1 : Int} {a2 : Int} {a3 : Int} {a4 : Int} {M : g_M} {H : Heap} {locs : List Loc} {ls : Array Slot} (h : m_X9_worded a1 a2 a3 a4 M = some res) (hp : g_PT mG V M s H locs) (hl : lv_has ls 6 [(0, .ref (V.2.2 0)), (1, .long (gJ a1)), (3, .int (gI a2)), (4, .int (gI a3)), (5, .int (gI a4))]) : W p l e R s m args below meth c H locs 0 0 Q (F0 m 0 ls []) := by
  unfold m_X9_worded at h
  refine lv_aload_n C.1 C.2.1 dX9_worded_0 rfl (lv_at hl 0 rfl) ?_
  refine lv_lload_n C.1 C.2.1 dX9_worded_1 rfl (lv_at hl 1 rfl) ?_
  obtain ⟨x11, hr, h⟩ := bd_of h
  refine r_callVI (As := [.long (gJ a1)]) (rest := []) C hl.1 hp (c_X9_isWord l C.2.2.2.2.2.2.2.2.2.2.2 hr) gw_1463 gw_1465 gw_54 mk_0 ms_0 mc_0 cal_X9_isWord rfl rfl (Nat.le_of_ble_eq_true rfl) ⟨Nat.le_of_ble_eq_true rfl, Nat.le_of_ble_eq_true rfl⟩ dX9_worded_2 (fun H locs hp => ?_)
  refine r_if_ne (tgt := 10) C h dX9_worded_5 (by decide) (fun h => ?_) (fun h => ?_)
  · refine lv_aload_n C.1 C.2.1 dX9_worded_10 rfl (lv_at hl 0 rfl) ?_
    obtain ⟨M12, hr, h⟩ := bd_of h
    refine r_callVV (As := []) (rest := []) C hl.1 hp (c_X9_nextToken l C.2.2.2.2.2.2.2.2.2.2.2 hr) gw_1427 gw_1429 gw_50 mk_0 ms_0 mc_0 cal_X9_nextToken rfl rfl (Nat.le_of_ble_eq_true rfl) ⟨Nat.le_of_ble_eq_true rfl, Nat.le_of_ble_eq_true rfl⟩ dX9_worded_11 (fun H locs hp => ?_)
    refine lv_aload_n C.1 C.2.1 dX9_worded_14 rfl (lv_at hl 0 rfl) ?_
    refine lv_iload_n C.1 C.2.1 dX9_worded_15 rfl (lv_at hl 2 rfl) ?_
    refine lv_iload C.1 C.2.1 dX9_worded_16 (lv_at hl 3 rfl) ?_
    refine lv_iload C.1 C.2.1 dX9_worded_18 (lv_at hl 4 rfl) ?_
    obtain ⟨x13, M14, hr, h⟩ := bW_of h
    refine r_callVI (As := [.int (gI a2), .int (gI a3), .int (gI a4)]) (rest := []) C hl.1 hp (c_X9_figure l C.2.2.2.2.2.2.2.2.2.2.2 hr) gw_1488 gw_1490 gw_58 mk_0 ms_0 mc_0 cal_X9_figure rfl rfl (Nat.le_of_ble_eq_true rfl) ⟨Nat.le_of_ble_eq_true rfl, Nat.le_of_ble_eq_true rfl⟩ dX9_worded_20 (fun H locs hp => ?_)
    cases h
    exact hR _ _ _ _ dX9_worded_23 rfl hp
  · refine r_iconst C dX9_worded_8 ?_
    cases h
    exact hR _ _ _ _ dX9_worded_9 rfl hp
theorem c_X9_worded (l : Launch) {V : g_V} (hok : g_ok mG V) {a1 : Int} {a2 : Int} {a3 : Int} {a4 : Int} {M : g_M} {x : Int} {M2 : g_M} (h : m_X9_worded a1 a2 a3 a4 M = some (x, M2)) : MetI mG V l yX9_worded cX9_worded 6 (some .int) 3 65 [.ref (V.2.2 0), .long (gJ a1), .int (gI a2), .int (gI a3), .int (gI a4)] M x M2 :=
  g_metI hok cal_X9_worded.2.2.2 rfl (Nat.le_of_ble_eq_true rfl) (@fun p e R s m args below meth c Q ls C hR hp hl => b_X9_worded C hR h hp hl)
set_option maxRecDepth 100000 in
set_option maxHeartbeats 4000000 in
theorem b_X9_lawClause (C : g_CX mG V p R s m args meth c cX9_lawClause 3 (some .int) RX9 7 152) {res : Int × g_M} (hR : g_RetI mG V p l e R s m args below meth c Q cX9_lawClause .int res.1 res.2) {a1 : Int} {M : g_M} {H : Heap} {locs : List Loc} {ls : Array Slot} (h : m_X9_lawClause a1 M = some res) (hp : g_PT mG V M s H locs) (hl : lv_has ls 3 [(0, .ref (V.2.2 0)), (1, .int (gI a1))]) : W p l e R s m args below meth c H locs 0 0 Q (F0 m 0 ls []) := by
  unfold m_X9_lawClause at h
  refine lv_aload_n C.1 C.2.1 dX9_lawClause_0 rfl (lv_at hl 0 rfl) ?_
  refine r_getr (t := 3) C hp mk_0 ms_0 mc_0 min_0 (j := 2) (by decide) rfl gw_1258 rfl dX9_lawClause_1 ?_
  refine lv_iload_n C.1 C.2.1 dX9_lawClause_4 rfl (lv_at hl 1 rfl) ?_
  refine r_iconst C dX9_lawClause_5 ?_
  refine r_iadd C dX9_lawClause_6 ?_
  refine lv_aload_n C.1 C.2.1 dX9_lawClause_7 rfl (lv_at hl 0 rfl) ?_
  refine r_geti (t := 0) C hp mk_0 ms_0 mc_0 min_0 (j := 13) (by decide) rfl gw_1269 rfl dX9_lawClause_8 ?_
  refine r_iast C hp h mk_3 ms_3 dX9_lawClause_11 (fun M11 H locs h hp => ?_)
  refine lv_aload_n C.1 C.2.1 dX9_lawClause_12 rfl (lv_at hl 0 rfl) ?_
  obtain ⟨x12, M13, hr, h⟩ := bW_of h
  refine r_callVI (As := []) (rest := []) C hl.1 hp (c_X9_summed l C.2.2.2.2.2.2.2.2.2.2.2 hr) gw_1504 gw_1506 gw_62 mk_0 ms_0 mc_0 cal_X9_summed rfl rfl (Nat.le_of_ble_eq_true rfl) ⟨Nat.le_of_ble_eq_true rfl, Nat.le_of_ble_eq_true rfl⟩ dX9_lawClause_13 (fun H locs hp => ?_)
  refine r_istore_n (lv' := fun x14 => [(2, .int (gI x14)), (0, .ref (V.2.2 0)), (1, .int (gI a1))]) C h dX9_lawClause_16 rfl hl (by decide) (fun _ => rfl) (fun x14 ls h hl => ?_)
  refine lv_aload_n C.1 C.2.1 dX9_lawClause_17 rfl (lv_at hl 1 rfl) ?_
  refine r_getr (t := 3) C hp mk_0 ms_0 mc_0 min_0 (j := 2) (by decide) rfl gw_1258 rfl dX9_lawClause_18 ?_
  refine lv_iload_n C.1 C.2.1 dX9_lawClause_21 rfl (lv_at hl 2 rfl) ?_
  refine r_iconst C dX9_lawClause_22 ?_
  refine r_iadd C dX9_lawClause_23 ?_
  refine lv_aload_n C.1 C.2.1 dX9_lawClause_24 rfl (lv_at hl 1 rfl) ?_
  refine r_geti (t := 0) C hp mk_0 ms_0 mc_0 min_0 (j := 13) (by decide) rfl gw_1269 rfl dX9_lawClause_25 ?_
  refine r_iast C hp h mk_3 ms_3 dX9_lawClause_28 (fun M15 H locs h hp => ?_)
  refine lv_iload_n C.1 C.2.1 dX9_lawClause_29 rfl (lv_at hl 0 rfl) ?_
  cases h
  exact hR _ _ _ _ dX9_lawClause_30 rfl hp
theorem c_X9_lawClause (l : Launch) {V : g_V} (hok : g_ok mG V) {a1 : Int} {M : g_M} {x : Int} {M2 : g_M} (h : m_X9_lawClause a1 M = some (x, M2)) : MetI mG V l yX9_lawClause cX9_lawClause 3 (some .int) 7 152 [.ref (V.2.2 0), .int (gI a1)] M x M2 :=
  g_metI hok cal_X9_lawClause.2.2.2 rfl (Nat.le_of_ble_eq_true rfl) (@fun p e R s m args below meth c Q ls C hR hp hl => b_X9_lawClause C hR h hp hl)
set_option maxRecDepth 100000 in
set_option maxHeartbeats 4000000 in
theorem b_X9_sceneClause (C : g_CX mG V p R s m args meth c cX9_sceneClause 3 (some .int) RX9 4 90) {res : Int × g_M} (hR : g_RetI mG V p l e R s m args below meth c Q cX9_sceneClause .int res.1 res.2) {a1 : Int} {M : g_M} {H : Heap} {locs : List Loc} {ls : Array Slot} (h : m_X9_sceneClause a1 M = some res) (hp : g_PT mG V M s H locs) (hl : lv_has ls 3 [(0, .ref (V.2.2 0)), (1, .int (gI a1))]) : W p l e R s m args below meth c H locs 0 0 Q (F0 m 0 ls []) := by
  unfold m_X9_sceneClause at h
  refine r_jn (P := fun J => ∀ (x19 : Int) (M20 : g_M) (H : Heap) (locs : List Loc) (ls : Array Slot), J x19 M20 = some res → g_PT mG V M20 s H locs → lv_has ls 3 [(0, .ref (V.2.2 0)), (1, .int (gI a1)), (2, .int (gI x19))] → W p l e R s m args below meth c H locs 0 0 Q (F0 m 32 ls [])) h ?_ (fun J11 hJ11 h => ?_)
  · intro x19 M20 H locs ls h hp hl
    refine lv_iload_n C.1 C.2.1 dX9_sceneClause_32 rfl (lv_at hl 2 rfl) ?_
    refine r_if_eq (tgt := 40) C h dX9_sceneClause_33 (by decide) (fun h => ?_) (fun h => ?_)
    · refine lv_aload_n C.1 C.2.1 dX9_sceneClause_40 rfl (lv_at hl 0 rfl) ?_
      refine r_bipush C dX9_sceneClause_41 (by decide +kernel) ?_
      refine r_bipush C dX9_sceneClause_43 (by decide +kernel) ?_
      obtain ⟨x21, hr, h⟩ := bd_of h
      refine r_callSL (As := [.int (gI 116), .int (gI 111)]) (rest := [.ref (V.2.2 0)]) C hl.1 hp (c_X9_w2 l C.2.2.2.2.2.2.2.2.2.2.2 hr) gw_1460 gw_1461 cal_X9_w2 rfl rfl (Nat.le_of_ble_eq_true rfl) ⟨Nat.le_of_ble_eq_true rfl, Nat.le_of_ble_eq_true rfl⟩ dX9_sceneClause_45 (fun H locs hp => ?_)
      refine lv_iload_n C.1 C.2.1 dX9_sceneClause_48 rfl (lv_at hl 1 rfl) ?_
      refine r_iconst C dX9_sceneClause_49 ?_
      refine r_iadd C dX9_sceneClause_50 ?_
      refine r_iconst C dX9_sceneClause_51 ?_
      refine r_bipush C dX9_sceneClause_52 (by decide +kernel) ?_
      obtain ⟨x22, M23, hr, h⟩ := bW_of h
      refine r_callVI (As := [.long (gJ x21), .int (gI (a1 + 3)), .int (gI 0), .int (gI 12)]) (rest := []) C hl.1 hp (c_X9_worded l C.2.2.2.2.2.2.2.2.2.2.2 hr) gw_1492 gw_1494 gw_59 mk_0 ms_0 mc_0 cal_X9_worded rfl rfl (Nat.le_of_ble_eq_true rfl) ⟨Nat.le_of_ble_eq_true rfl, Nat.le_of_ble_eq_true rfl⟩ dX9_sceneClause_54 (fun H locs hp => ?_)
      cases h
      exact hR _ _ _ _ dX9_sceneClause_57 rfl hp
    · refine lv_iload_n C.1 C.2.1 dX9_sceneClause_36 rfl (lv_at hl 2 rfl) ?_
      refine r_goto (tgt := 57) C dX9_sceneClause_37 (by decide) ?_
      cases h
      exact hR _ _ _ _ dX9_sceneClause_57 rfl hp
  refine lv_aload_n C.1 C.2.1 dX9_sceneClause_0 rfl (lv_at hl 0 rfl) ?_
  refine lv_iload_n C.1 C.2.1 dX9_sceneClause_1 rfl (lv_at hl 1 rfl) ?_
  refine r_iconst C dX9_sceneClause_2 ?_
  refine r_iadd C dX9_sceneClause_3 ?_
  refine r_iconst C dX9_sceneClause_4 ?_
  refine r_bipush C dX9_sceneClause_5 (by decide +kernel) ?_
  obtain ⟨x12, M13, hr, h⟩ := bW_of h
  refine r_callVI (As := [.int (gI (a1 + 1)), .int (gI 0), .int (gI 11)]) (rest := []) C hl.1 hp (c_X9_figure l C.2.2.2.2.2.2.2.2.2.2.2 hr) gw_1488 gw_1490 gw_58 mk_0 ms_0 mc_0 cal_X9_figure rfl rfl (Nat.le_of_ble_eq_true rfl) ⟨Nat.le_of_ble_eq_true rfl, Nat.le_of_ble_eq_true rfl⟩ dX9_sceneClause_7 (fun H locs hp => ?_)
  refine r_istore_n (lv' := fun x14 => [(2, .int (gI x14)), (0, .ref (V.2.2 0)), (1, .int (gI a1))]) C h dX9_sceneClause_10 rfl hl (by decide) (fun _ => rfl) (fun x14 ls h hl => ?_)
  refine lv_iload_n C.1 C.2.1 dX9_sceneClause_11 rfl (lv_at hl 0 rfl) ?_
  refine r_if_ne (tgt := 32) C h dX9_sceneClause_12 (by decide) (fun h => ?_) (fun h => ?_)
  · exact hJ11 _ _ _ _ _ h hp (lv_sub hl [1, 2, 0] rfl)
  · refine lv_aload_n C.1 C.2.1 dX9_sceneClause_15 rfl (lv_at hl 1 rfl) ?_
    refine r_bipush C dX9_sceneClause_16 (by decide +kernel) ?_
    refine r_bipush C dX9_sceneClause_18 (by decide +kernel) ?_
    obtain ⟨x15, hr, h⟩ := bd_of h
    refine r_callSL (As := [.int (gI 98), .int (gI 121)]) (rest := [.ref (V.2.2 0)]) C hl.1 hp (c_X9_w2 l C.2.2.2.2.2.2.2.2.2.2.2 hr) gw_1460 gw_1461 cal_X9_w2 rfl rfl (Nat.le_of_ble_eq_true rfl) ⟨Nat.le_of_ble_eq_true rfl, Nat.le_of_ble_eq_true rfl⟩ dX9_sceneClause_20 (fun H locs hp => ?_)
    refine lv_iload_n C.1 C.2.1 dX9_sceneClause_23 rfl (lv_at hl 2 rfl) ?_
    refine r_iconst C dX9_sceneClause_24 ?_
    refine r_iadd C dX9_sceneClause_25 ?_
    refine r_iconst C dX9_sceneClause_26 ?_
    refine r_iconst C dX9_sceneClause_27 ?_
    obtain ⟨x16, M17, hr, h⟩ := bW_of h
    refine r_callVI (As := [.long (gJ x15), .int (gI (a1 + 2)), .int (gI 0), .int (gI 3)]) (rest := []) C hl.1 hp (c_X9_worded l C.2.2.2.2.2.2.2.2.2.2.2 hr) gw_1492 gw_1494 gw_59 mk_0 ms_0 mc_0 cal_X9_worded rfl rfl (Nat.le_of_ble_eq_true rfl) ⟨Nat.le_of_ble_eq_true rfl, Nat.le_of_ble_eq_true rfl⟩ dX9_sceneClause_28 (fun H locs hp => ?_)
    refine r_istore_n (lv' := fun x18 => [(2, .int (gI x18)), (0, .ref (V.2.2 0)), (1, .int (gI a1))]) C h dX9_sceneClause_31 rfl hl (by decide) (fun _ => rfl) (fun x18 ls h hl => ?_)
    exact hJ11 _ _ _ _ _ h hp (lv_sub hl [1, 2, 0] rfl)
theorem c_X9_sceneClause (l : Launch) {V : g_V} (hok : g_ok mG V) {a1 : Int} {M : g_M} {x : Int} {M2 : g_M} (h : m_X9_sceneClause a1 M = some (x, M2)) : MetI mG V l yX9_sceneClause cX9_sceneClause 3 (some .int) 4 90 [.ref (V.2.2 0), .int (gI a1)] M x M2 :=
  g_metI hok cal_X9_sceneClause.2.2.2 rfl (Nat.le_of_ble_eq_true rfl) (@fun p e R s m args below meth c Q ls C hR hp hl => b_X9_sceneClause C hR h hp hl)
set_option maxRecDepth 100000 in
set_option maxHeartbeats 4000000 in
theorem b_X9_pair (C : g_CX mG V p R s m args meth c cX9_pair 8 (some .int) RX9 4 90) {res : Int × g_M} (hR : g_RetI mG V p l e R s m args below meth c Q cX9_pair .int res.1 res.2) {a1 : Int} {a2 : Int} {a3 : Int} {a4 : Int} {a5 : Int} {M : g_M} {H : Heap} {locs : List Loc} {ls : Array Slot} (h : m_X9_pair a1 a2 a3 a4 a5 M = some res) (hp : g_PT mG V M s H locs) (hl : lv_has ls 8 [(0, .ref (V.2.2 0)), (1, .int (gI a1)), (2, .int (gI a2)), (3, .long (gJ a3)), (5, .int (gI a4)), (6, .int (gI a5))]) : W p l e R s m args below meth c H locs 0 0 Q (F0 m 0 ls []) := by
  unfold m_X9_pair at h
  refine lv_aload_n C.1 C.2.1 dX9_pair_0 rfl (lv_at hl 0 rfl) ?_
  refine lv_iload_n C.1 C.2.1 dX9_pair_1 rfl (lv_at hl 1 rfl) ?_
  refine r_iconst C dX9_pair_2 ?_
  refine r_iadd C dX9_pair_3 ?_
  refine r_iconst C dX9_pair_4 ?_
  refine lv_iload_n C.1 C.2.1 dX9_pair_5 rfl (lv_at hl 2 rfl) ?_
  obtain ⟨x11, M12, hr, h⟩ := bW_of h
  refine r_callVI (As := [.int (gI (a1 + 1)), .int (gI 0), .int (gI a2)]) (rest := []) C hl.1 hp (c_X9_figure l C.2.2.2.2.2.2.2.2.2.2.2 hr) gw_1488 gw_1490 gw_58 mk_0 ms_0 mc_0 cal_X9_figure rfl rfl (Nat.le_of_ble_eq_true rfl) ⟨Nat.le_of_ble_eq_true rfl, Nat.le_of_ble_eq_true rfl⟩ dX9_pair_6 (fun H locs hp => ?_)
  refine r_istore (lv' := fun x13 => [(7, .int (gI x13)), (0, .ref (V.2.2 0)), (1, .int (gI a1)), (2, .int (gI a2)), (3, .long (gJ a3)), (5, .int (gI a4)), (6, .int (gI a5))]) C h dX9_pair_9 hl (by decide) (fun _ => rfl) (fun x13 ls h hl => ?_)
  refine lv_iload C.1 C.2.1 dX9_pair_11 (lv_at hl 0 rfl) ?_
  refine r_if_eq (tgt := 21) C h dX9_pair_13 (by decide) (fun h => ?_) (fun h => ?_)
  · refine lv_aload_n C.1 C.2.1 dX9_pair_21 rfl (lv_at hl 1 rfl) ?_
    refine lv_lload_n C.1 C.2.1 dX9_pair_22 rfl (lv_at hl 4 rfl) ?_
    refine lv_iload_n C.1 C.2.1 dX9_pair_23 rfl (lv_at hl 2 rfl) ?_
    refine r_iconst C dX9_pair_24 ?_
    refine r_iadd C dX9_pair_25 ?_
    refine lv_iload C.1 C.2.1 dX9_pair_26 (lv_at hl 5 rfl) ?_
    refine lv_iload C.1 C.2.1 dX9_pair_28 (lv_at hl 6 rfl) ?_
    obtain ⟨x14, M15, hr, h⟩ := bW_of h
    refine r_callVI (As := [.long (gJ a3), .int (gI (a1 + 2)), .int (gI a4), .int (gI a5)]) (rest := []) C hl.1 hp (c_X9_worded l C.2.2.2.2.2.2.2.2.2.2.2 hr) gw_1492 gw_1494 gw_59 mk_0 ms_0 mc_0 cal_X9_worded rfl rfl (Nat.le_of_ble_eq_true rfl) ⟨Nat.le_of_ble_eq_true rfl, Nat.le_of_ble_eq_true rfl⟩ dX9_pair_30 (fun H locs hp => ?_)
    cases h
    exact hR _ _ _ _ dX9_pair_33 rfl hp
  · refine lv_iload C.1 C.2.1 dX9_pair_16 (lv_at hl 0 rfl) ?_
    refine r_goto (tgt := 33) C dX9_pair_18 (by decide) ?_
    cases h
    exact hR _ _ _ _ dX9_pair_33 rfl hp
theorem c_X9_pair (l : Launch) {V : g_V} (hok : g_ok mG V) {a1 : Int} {a2 : Int} {a3 : Int} {a4 : Int} {a5 : Int} {M : g_M} {x : Int} {M2 : g_M} (h : m_X9_pair a1 a2 a3 a4 a5 M = some (x, M2)) : MetI mG V l yX9_pair cX9_pair 8 (some .int) 4 90 [.ref (V.2.2 0), .int (gI a1), .int (gI a2), .long (gJ a3), .int (gI a4), .int (gI a5)] M x M2 :=
  g_metI hok cal_X9_pair.2.2.2 rfl (Nat.le_of_ble_eq_true rfl) (@fun p e R s m args below meth c Q ls C hR hp hl => b_X9_pair C hR h hp hl)
set_option maxRecDepth 100000 in
set_option maxHeartbeats 4000000 in
theorem b_X9_body (C : g_CX mG V p R s m args meth c cX9_body 3 (some .int) RX9 8 174) {res : Int × g_M} (hR : g_RetI mG V p l e R s m args below meth c Q cX9_body .int res.1 res.2) {a1 : Int} {a2 : Int} {M : g_M} {H : Heap} {locs : List Loc} {ls : Array Slot} (h : m_X9_body a1 a2 M = some res) (hp : g_PT mG V M s H locs) (hl : lv_has ls 3 [(0, .ref (V.2.2 0)), (1, .int (gI a1)), (2, .int (gI a2))]) : W p l e R s m args below meth c H locs 0 0 Q (F0 m 0 ls []) := by
  unfold m_X9_body at h
  refine lv_iload_n C.1 C.2.1 dX9_body_0 rfl (lv_at hl 1 rfl) ?_
  refine r_ite h (fun hv h => ?_) (fun hv3 h => ?_)
  · refine r_tswIn (tgt := 44) (v := 3) C hv dX9_body_1 (by decide) rfl (by decide) ?_
    refine lv_aload_n C.1 C.2.1 dX9_body_44 rfl (lv_at hl 0 rfl) ?_
    refine lv_iload_n C.1 C.2.1 dX9_body_45 rfl (lv_at hl 2 rfl) ?_
    obtain ⟨x11, M12, hr, h⟩ := bW_of h
    refine r_callVI (As := [.int (gI a2)]) (rest := []) C hl.1 hp (c_X9_sceneClause l C.2.2.2.2.2.2.2.2.2.2.2 hr) gw_1484 gw_1486 gw_57 mk_0 ms_0 mc_0 cal_X9_sceneClause rfl rfl (Nat.le_of_ble_eq_true rfl) ⟨Nat.le_of_ble_eq_true rfl, Nat.le_of_ble_eq_true rfl⟩ dX9_body_46 (fun H locs hp => ?_)
    cases h
    exact hR _ _ _ _ dX9_body_49 rfl hp
  refine r_ite h (fun hv h => ?_) (fun hv4 h => ?_)
  · refine r_tswIn (tgt := 50) (v := 4) C hv dX9_body_1 (by decide) rfl (by decide) ?_
    refine lv_aload_n C.1 C.2.1 dX9_body_50 rfl (lv_at hl 0 rfl) ?_
    refine lv_iload_n C.1 C.2.1 dX9_body_51 rfl (lv_at hl 2 rfl) ?_
    refine r_iconst C dX9_body_52 ?_
    refine r_bipush C dX9_body_53 (by decide +kernel) ?_
    refine r_bipush C dX9_body_55 (by decide +kernel) ?_
    obtain ⟨x13, hr, h⟩ := bd_of h
    refine r_callSL (As := [.int (gI 111), .int (gI 102)]) (rest := [.int (gI 3), .int (gI a2), .ref (V.2.2 0)]) C hl.1 hp (c_X9_w2 l C.2.2.2.2.2.2.2.2.2.2.2 hr) gw_1460 gw_1461 cal_X9_w2 rfl rfl (Nat.le_of_ble_eq_true rfl) ⟨Nat.le_of_ble_eq_true rfl, Nat.le_of_ble_eq_true rfl⟩ dX9_body_57 (fun H locs hp => ?_)
    refine r_iconst C dX9_body_60 ?_
    refine r_bipush C dX9_body_61 (by decide +kernel) ?_
    obtain ⟨x14, M15, hr, h⟩ := bW_of h
    refine r_callVI (As := [.int (gI a2), .int (gI 3), .long (gJ x13), .int (gI 0), .int (gI 11)]) (rest := []) C hl.1 hp (c_X9_pair l C.2.2.2.2.2.2.2.2.2.2.2 hr) gw_1496 gw_1498 gw_60 mk_0 ms_0 mc_0 cal_X9_pair rfl rfl (Nat.le_of_ble_eq_true rfl) ⟨Nat.le_of_ble_eq_true rfl, Nat.le_of_ble_eq_true rfl⟩ dX9_body_63 (fun H locs hp => ?_)
    cases h
    exact hR _ _ _ _ dX9_body_66 rfl hp
  refine r_ite h (fun hv h => ?_) (fun hv5 h => ?_)
  · refine r_tswIn (tgt := 67) (v := 5) C hv dX9_body_1 (by decide) rfl (by decide) ?_
    refine lv_aload_n C.1 C.2.1 dX9_body_67 rfl (lv_at hl 0 rfl) ?_
    refine lv_iload_n C.1 C.2.1 dX9_body_68 rfl (lv_at hl 2 rfl) ?_
    refine r_bipush C dX9_body_69 (by decide +kernel) ?_
    refine r_bipush C dX9_body_71 (by decide +kernel) ?_
    refine r_bipush C dX9_body_73 (by decide +kernel) ?_
    refine r_bipush C dX9_body_75 (by decide +kernel) ?_
    obtain ⟨x16, hr, h⟩ := bd_of h
    refine r_callSL (As := [.int (gI 114), .int (gI 111), .int (gI 119)]) (rest := [.int (gI 9), .int (gI a2), .ref (V.2.2 0)]) C hl.1 hp (c_X9_w3 l C.2.2.2.2.2.2.2.2.2.2.2 hr) gw_1457 gw_1458 cal_X9_w3 rfl rfl (Nat.le_of_ble_eq_true rfl) ⟨Nat.le_of_ble_eq_true rfl, Nat.le_of_ble_eq_true rfl⟩ dX9_body_77 (fun H locs hp => ?_)
    refine r_iconst C dX9_body_80 ?_
    refine r_bipush C dX9_body_81 (by decide +kernel) ?_
    obtain ⟨x17, M18, hr, h⟩ := bW_of h
    refine r_callVI (As := [.int (gI a2), .int (gI 9), .long (gJ x16), .int (gI 0), .int (gI 9)]) (rest := []) C hl.1 hp (c_X9_pair l C.2.2.2.2.2.2.2.2.2.2.2 hr) gw_1496 gw_1498 gw_60 mk_0 ms_0 mc_0 cal_X9_pair rfl rfl (Nat.le_of_ble_eq_true rfl) ⟨Nat.le_of_ble_eq_true rfl, Nat.le_of_ble_eq_true rfl⟩ dX9_body_83 (fun H locs hp => ?_)
    cases h
    exact hR _ _ _ _ dX9_body_86 rfl hp
  refine r_ite h (fun hv h => ?_) (fun hv6 h => ?_)
  · refine r_tswIn (tgt := 87) (v := 6) C hv dX9_body_1 (by decide) rfl (by decide) ?_
    refine lv_aload_n C.1 C.2.1 dX9_body_87 rfl (lv_at hl 0 rfl) ?_
    refine lv_iload_n C.1 C.2.1 dX9_body_88 rfl (lv_at hl 2 rfl) ?_
    refine r_bipush C dX9_body_89 (by decide +kernel) ?_
    refine r_bipush C dX9_body_91 (by decide +kernel) ?_
    refine r_bipush C dX9_body_93 (by decide +kernel) ?_
    obtain ⟨x19, hr, h⟩ := bd_of h
    refine r_callSL (As := [.int (gI 105), .int (gI 110)]) (rest := [.int (gI 7), .int (gI a2), .ref (V.2.2 0)]) C hl.1 hp (c_X9_w2 l C.2.2.2.2.2.2.2.2.2.2.2 hr) gw_1460 gw_1461 cal_X9_w2 rfl rfl (Nat.le_of_ble_eq_true rfl) ⟨Nat.le_of_ble_eq_true rfl, Nat.le_of_ble_eq_true rfl⟩ dX9_body_95 (fun H locs hp => ?_)
    refine r_iconst C dX9_body_98 ?_
    refine r_bipush C dX9_body_99 (by decide +kernel) ?_
    obtain ⟨x20, M21, hr, h⟩ := bW_of h
    refine r_callVI (As := [.int (gI a2), .int (gI 7), .long (gJ x19), .int (gI 0), .int (gI 9)]) (rest := []) C hl.1 hp (c_X9_pair l C.2.2.2.2.2.2.2.2.2.2.2 hr) gw_1496 gw_1498 gw_60 mk_0 ms_0 mc_0 cal_X9_pair rfl rfl (Nat.le_of_ble_eq_true rfl) ⟨Nat.le_of_ble_eq_true rfl, Nat.le_of_ble_eq_true rfl⟩ dX9_body_101 (fun H locs hp => ?_)
    cases h
    exact hR _ _ _ _ dX9_body_104 rfl hp
  refine r_ite h (fun hv h => ?_) (fun hv7 h => ?_)
  · refine r_tswIn (tgt := 105) (v := 7) C hv dX9_body_1 (by decide) rfl (by decide) ?_
    refine lv_aload_n C.1 C.2.1 dX9_body_105 rfl (lv_at hl 0 rfl) ?_
    refine lv_iload_n C.1 C.2.1 dX9_body_106 rfl (lv_at hl 2 rfl) ?_
    refine r_bipush C dX9_body_107 (by decide +kernel) ?_
    refine r_bipush C dX9_body_109 (by decide +kernel) ?_
    refine r_bipush C dX9_body_111 (by decide +kernel) ?_
    obtain ⟨x22, hr, h⟩ := bd_of h
    refine r_callSL (As := [.int (gI 98), .int (gI 121)]) (rest := [.int (gI 11), .int (gI a2), .ref (V.2.2 0)]) C hl.1 hp (c_X9_w2 l C.2.2.2.2.2.2.2.2.2.2.2 hr) gw_1460 gw_1461 cal_X9_w2 rfl rfl (Nat.le_of_ble_eq_true rfl) ⟨Nat.le_of_ble_eq_true rfl, Nat.le_of_ble_eq_true rfl⟩ dX9_body_113 (fun H locs hp => ?_)
    refine r_iconst C dX9_body_116 ?_
    refine r_iconst C dX9_body_117 ?_
    obtain ⟨x23, M24, hr, h⟩ := bW_of h
    refine r_callVI (As := [.int (gI a2), .int (gI 11), .long (gJ x22), .int (gI 1), .int (gI 3)]) (rest := []) C hl.1 hp (c_X9_pair l C.2.2.2.2.2.2.2.2.2.2.2 hr) gw_1496 gw_1498 gw_60 mk_0 ms_0 mc_0 cal_X9_pair rfl rfl (Nat.le_of_ble_eq_true rfl) ⟨Nat.le_of_ble_eq_true rfl, Nat.le_of_ble_eq_true rfl⟩ dX9_body_118 (fun H locs hp => ?_)
    cases h
    exact hR _ _ _ _ dX9_body_121 rfl hp
  refine r_ite h (fun hv h => ?_) (fun hv8 h => ?_)
  · refine r_tswIn (tgt := 122) (v := 8) C hv dX9_body_1 (by decide) rfl (by decide) ?_
    refine lv_aload_n C.1 C.2.1 dX9_body_122 rfl (lv_at hl 0 rfl) ?_
    refine lv_iload_n C.1 C.2.1 dX9_body_123 rfl (lv_at hl 2 rfl) ?_
    refine r_iconst C dX9_body_124 ?_
    refine r_iadd C dX9_body_125 ?_
    refine r_iconst C dX9_body_126 ?_
    refine r_bipush C dX9_body_127 (by decide +kernel) ?_
    obtain ⟨x25, M26, hr, h⟩ := bW_of h
    refine r_callVI (As := [.int (gI (a2 + 1)), .int (gI 0), .int (gI 11)]) (rest := []) C hl.1 hp (c_X9_figure l C.2.2.2.2.2.2.2.2.2.2.2 hr) gw_1488 gw_1490 gw_58 mk_0 ms_0 mc_0 cal_X9_figure rfl rfl (Nat.le_of_ble_eq_true rfl) ⟨Nat.le_of_ble_eq_true rfl, Nat.le_of_ble_eq_true rfl⟩ dX9_body_129 (fun H locs hp => ?_)
    cases h
    exact hR _ _ _ _ dX9_body_132 rfl hp
  refine r_ite h (fun hv h => ?_) (fun hv9 h => ?_)
  · refine r_tswIn (tgt := 133) (v := 9) C hv dX9_body_1 (by decide) rfl (by decide) ?_
    refine lv_aload_n C.1 C.2.1 dX9_body_133 rfl (lv_at hl 0 rfl) ?_
    refine lv_iload_n C.1 C.2.1 dX9_body_134 rfl (lv_at hl 2 rfl) ?_
    refine r_iconst C dX9_body_135 ?_
    refine r_iadd C dX9_body_136 ?_
    refine r_iconst C dX9_body_137 ?_
    refine r_bipush C dX9_body_138 (by decide +kernel) ?_
    obtain ⟨x27, M28, hr, h⟩ := bW_of h
    refine r_callVI (As := [.int (gI (a2 + 1)), .int (gI 1), .int (gI 40)]) (rest := []) C hl.1 hp (c_X9_figure l C.2.2.2.2.2.2.2.2.2.2.2 hr) gw_1488 gw_1490 gw_58 mk_0 ms_0 mc_0 cal_X9_figure rfl rfl (Nat.le_of_ble_eq_true rfl) ⟨Nat.le_of_ble_eq_true rfl, Nat.le_of_ble_eq_true rfl⟩ dX9_body_140 (fun H locs hp => ?_)
    cases h
    exact hR _ _ _ _ dX9_body_143 rfl hp
  have hd : W p l e R s m args below meth c H locs 0 0 Q (F0 m 144 ls []) := by
    refine lv_aload_n C.1 C.2.1 dX9_body_144 rfl (lv_at hl 0 rfl) ?_
    refine lv_iload_n C.1 C.2.1 dX9_body_145 rfl (lv_at hl 2 rfl) ?_
    obtain ⟨x29, M30, hr, h⟩ := bW_of h
    refine r_callVI (As := [.int (gI a2)]) (rest := []) C hl.1 hp (c_X9_lawClause l C.2.2.2.2.2.2.2.2.2.2.2 hr) gw_1500 gw_1502 gw_61 mk_0 ms_0 mc_0 cal_X9_lawClause rfl rfl (Nat.le_of_ble_eq_true rfl) ⟨Nat.le_of_ble_eq_true rfl, Nat.le_of_ble_eq_true rfl⟩ dX9_body_146 (fun H locs hp => ?_)
    cases h
    exact hR _ _ _ _ dX9_body_149 rfl hp
  exact r_tswOut (tgt := 144) C dX9_body_1 (by omega) (by decide) hd
theorem c_X9_body (l : Launch) {V : g_V} (hok : g_ok mG V) {a1 : Int} {a2 : Int} {M : g_M} {x : Int} {M2 : g_M} (h : m_X9_body a1 a2 M = some (x, M2)) : MetI mG V l yX9_body cX9_body 3 (some .int) 8 174 [.ref (V.2.2 0), .int (gI a1), .int (gI a2)] M x M2 :=
  g_metI hok cal_X9_body.2.2.2 rfl (Nat.le_of_ble_eq_true rfl) (@fun p e R s m args below meth c Q ls C hR hp hl => b_X9_body C hR h hp hl)
set_option maxRecDepth 100000 in
set_option maxHeartbeats 4000000 in
theorem b_X9_sortOf (C : g_CX mG V p R s m args meth c cX9_sortOf 1 (some .int) RX9 5 115) {res : Int} {M : g_M} (hR : g_RetI mG V p l e R s m args below meth c Q cX9_sortOf .int res M)  {H : Heap} {locs : List Loc} {ls : Array Slot} (h : m_X9_sortOf M = some res) (hp : g_PT mG V M s H locs) (hl : lv_has ls 1 [(0, .ref (V.2.2 0))]) : W p l e R s m args below meth c H locs 0 0 Q (F0 m 0 ls []) := by
  unfold m_X9_sortOf at h
  refine lv_aload_n C.1 C.2.1 dX9_sortOf_0 rfl (lv_at hl 0 rfl) ?_
  refine r_bipush C dX9_sortOf_1 (by decide +kernel) ?_
  refine r_bipush C dX9_sortOf_3 (by decide +kernel) ?_
  refine r_bipush C dX9_sortOf_5 (by decide +kernel) ?_
  refine r_bipush C dX9_sortOf_7 (by decide +kernel) ?_
  obtain ⟨x11, hr, h⟩ := bd_of h
  refine r_callSL (As := [.int (gI 99), .int (gI 117), .int (gI 101), .int (gI 115)]) (rest := [.ref (V.2.2 0)]) C hl.1 hp (c_X9_w4 l C.2.2.2.2.2.2.2.2.2.2.2 hr) gw_1454 gw_1455 cal_X9_w4 rfl rfl (Nat.le_of_ble_eq_true rfl) ⟨Nat.le_of_ble_eq_true rfl, Nat.le_of_ble_eq_true rfl⟩ dX9_sortOf_9 (fun H locs hp => ?_)
  obtain ⟨x12, hr, h⟩ := bd_of h
  refine r_callVI (As := [.long (gJ x11)]) (rest := []) C hl.1 hp (c_X9_isWord l C.2.2.2.2.2.2.2.2.2.2.2 hr) gw_1463 gw_1465 gw_54 mk_0 ms_0 mc_0 cal_X9_isWord rfl rfl (Nat.le_of_ble_eq_true rfl) ⟨Nat.le_of_ble_eq_true rfl, Nat.le_of_ble_eq_true rfl⟩ dX9_sortOf_12 (fun H locs hp => ?_)
  refine r_if_eq (tgt := 20) C h dX9_sortOf_15 (by decide) (fun h => ?_) (fun h => ?_)
  · refine lv_aload_n C.1 C.2.1 dX9_sortOf_20 rfl (lv_at hl 0 rfl) ?_
    refine r_bipush C dX9_sortOf_21 (by decide +kernel) ?_
    refine r_bipush C dX9_sortOf_23 (by decide +kernel) ?_
    refine r_bipush C dX9_sortOf_25 (by decide +kernel) ?_
    refine r_bipush C dX9_sortOf_27 (by decide +kernel) ?_
    refine r_bipush C dX9_sortOf_29 (by decide +kernel) ?_
    obtain ⟨x13, hr, h⟩ := bd_of h
    refine r_callSL (As := [.int (gI 115), .int (gI 116), .int (gI 97), .int (gI 121), .int (gI 115)]) (rest := [.ref (V.2.2 0)]) C hl.1 hp (c_X9_w5 l C.2.2.2.2.2.2.2.2.2.2.2 hr) gw_1467 gw_1468 cal_X9_w5 rfl rfl (Nat.le_of_ble_eq_true rfl) ⟨Nat.le_of_ble_eq_true rfl, Nat.le_of_ble_eq_true rfl⟩ dX9_sortOf_31 (fun H locs hp => ?_)
    obtain ⟨x14, hr, h⟩ := bd_of h
    refine r_callVI (As := [.long (gJ x13)]) (rest := []) C hl.1 hp (c_X9_isWord l C.2.2.2.2.2.2.2.2.2.2.2 hr) gw_1463 gw_1465 gw_54 mk_0 ms_0 mc_0 cal_X9_isWord rfl rfl (Nat.le_of_ble_eq_true rfl) ⟨Nat.le_of_ble_eq_true rfl, Nat.le_of_ble_eq_true rfl⟩ dX9_sortOf_34 (fun H locs hp => ?_)
    refine r_if_eq (tgt := 42) C h dX9_sortOf_37 (by decide) (fun h => ?_) (fun h => ?_)
    · refine lv_aload_n C.1 C.2.1 dX9_sortOf_42 rfl (lv_at hl 0 rfl) ?_
      refine r_bipush C dX9_sortOf_43 (by decide +kernel) ?_
      refine r_bipush C dX9_sortOf_45 (by decide +kernel) ?_
      refine r_bipush C dX9_sortOf_47 (by decide +kernel) ?_
      refine r_bipush C dX9_sortOf_49 (by decide +kernel) ?_
      obtain ⟨x15, hr, h⟩ := bd_of h
      refine r_callSL (As := [.int (gI 103), .int (gI 108), .int (gI 97), .int (gI 100)]) (rest := [.ref (V.2.2 0)]) C hl.1 hp (c_X9_w4 l C.2.2.2.2.2.2.2.2.2.2.2 hr) gw_1454 gw_1455 cal_X9_w4 rfl rfl (Nat.le_of_ble_eq_true rfl) ⟨Nat.le_of_ble_eq_true rfl, Nat.le_of_ble_eq_true rfl⟩ dX9_sortOf_51 (fun H locs hp => ?_)
      refine r_bipush C dX9_sortOf_54 (by decide +kernel) ?_
      refine r_bipush C dX9_sortOf_56 (by decide +kernel) ?_
      refine r_bipush C dX9_sortOf_58 (by decide +kernel) ?_
      refine r_bipush C dX9_sortOf_60 (by decide +kernel) ?_
      obtain ⟨x16, hr, h⟩ := bd_of h
      refine r_callSL (As := [.int (gI 100), .int (gI 101), .int (gI 110), .int (gI 115)]) (rest := [.long (gJ x15), .ref (V.2.2 0)]) C hl.1 hp (c_X9_w4 l C.2.2.2.2.2.2.2.2.2.2.2 hr) gw_1454 gw_1455 cal_X9_w4 rfl rfl (Nat.le_of_ble_eq_true rfl) ⟨Nat.le_of_ble_eq_true rfl, Nat.le_of_ble_eq_true rfl⟩ dX9_sortOf_62 (fun H locs hp => ?_)
      refine r_bipush C dX9_sortOf_65 (by decide +kernel) ?_
      obtain ⟨x17, hr, h⟩ := bd_of h
      refine r_callVI (As := [.long (gJ x15), .long (gJ x16), .int (gI 8)]) (rest := []) C hl.1 hp (c_X9_isLong l C.2.2.2.2.2.2.2.2.2.2.2 hr) gw_1470 gw_1472 gw_55 mk_0 ms_0 mc_0 cal_X9_isLong rfl rfl (Nat.le_of_ble_eq_true rfl) ⟨Nat.le_of_ble_eq_true rfl, Nat.le_of_ble_eq_true rfl⟩ dX9_sortOf_67 (fun H locs hp => ?_)
      refine r_if_eq (tgt := 75) C h dX9_sortOf_70 (by decide) (fun h => ?_) (fun h => ?_)
      · refine lv_aload_n C.1 C.2.1 dX9_sortOf_75 rfl (lv_at hl 0 rfl) ?_
        refine r_bipush C dX9_sortOf_76 (by decide +kernel) ?_
        refine r_bipush C dX9_sortOf_78 (by decide +kernel) ?_
        refine r_bipush C dX9_sortOf_80 (by decide +kernel) ?_
        refine r_bipush C dX9_sortOf_82 (by decide +kernel) ?_
        refine r_bipush C dX9_sortOf_84 (by decide +kernel) ?_
        obtain ⟨x18, hr, h⟩ := bd_of h
        refine r_callSL (As := [.int (gI 115), .int (gI 99), .int (gI 101), .int (gI 110), .int (gI 101)]) (rest := [.ref (V.2.2 0)]) C hl.1 hp (c_X9_w5 l C.2.2.2.2.2.2.2.2.2.2.2 hr) gw_1467 gw_1468 cal_X9_w5 rfl rfl (Nat.le_of_ble_eq_true rfl) ⟨Nat.le_of_ble_eq_true rfl, Nat.le_of_ble_eq_true rfl⟩ dX9_sortOf_86 (fun H locs hp => ?_)
        obtain ⟨x19, hr, h⟩ := bd_of h
        refine r_callVI (As := [.long (gJ x18)]) (rest := []) C hl.1 hp (c_X9_isWord l C.2.2.2.2.2.2.2.2.2.2.2 hr) gw_1463 gw_1465 gw_54 mk_0 ms_0 mc_0 cal_X9_isWord rfl rfl (Nat.le_of_ble_eq_true rfl) ⟨Nat.le_of_ble_eq_true rfl, Nat.le_of_ble_eq_true rfl⟩ dX9_sortOf_89 (fun H locs hp => ?_)
        refine r_if_eq (tgt := 97) C h dX9_sortOf_92 (by decide) (fun h => ?_) (fun h => ?_)
        · refine lv_aload_n C.1 C.2.1 dX9_sortOf_97 rfl (lv_at hl 0 rfl) ?_
          refine r_bipush C dX9_sortOf_98 (by decide +kernel) ?_
          refine r_bipush C dX9_sortOf_100 (by decide +kernel) ?_
          refine r_bipush C dX9_sortOf_102 (by decide +kernel) ?_
          refine r_bipush C dX9_sortOf_104 (by decide +kernel) ?_
          obtain ⟨x20, hr, h⟩ := bd_of h
          refine r_callSL (As := [.int (gI 107), .int (gI 105), .int (gI 110), .int (gI 100)]) (rest := [.ref (V.2.2 0)]) C hl.1 hp (c_X9_w4 l C.2.2.2.2.2.2.2.2.2.2.2 hr) gw_1454 gw_1455 cal_X9_w4 rfl rfl (Nat.le_of_ble_eq_true rfl) ⟨Nat.le_of_ble_eq_true rfl, Nat.le_of_ble_eq_true rfl⟩ dX9_sortOf_106 (fun H locs hp => ?_)
          obtain ⟨x21, hr, h⟩ := bd_of h
          refine r_callVI (As := [.long (gJ x20)]) (rest := []) C hl.1 hp (c_X9_isWord l C.2.2.2.2.2.2.2.2.2.2.2 hr) gw_1463 gw_1465 gw_54 mk_0 ms_0 mc_0 cal_X9_isWord rfl rfl (Nat.le_of_ble_eq_true rfl) ⟨Nat.le_of_ble_eq_true rfl, Nat.le_of_ble_eq_true rfl⟩ dX9_sortOf_109 (fun H locs hp => ?_)
          refine r_if_eq (tgt := 117) C h dX9_sortOf_112 (by decide) (fun h => ?_) (fun h => ?_)
          · refine lv_aload_n C.1 C.2.1 dX9_sortOf_117 rfl (lv_at hl 0 rfl) ?_
            refine r_bipush C dX9_sortOf_118 (by decide +kernel) ?_
            refine r_bipush C dX9_sortOf_120 (by decide +kernel) ?_
            refine r_bipush C dX9_sortOf_122 (by decide +kernel) ?_
            refine r_bipush C dX9_sortOf_124 (by decide +kernel) ?_
            refine r_bipush C dX9_sortOf_126 (by decide +kernel) ?_
            refine r_bipush C dX9_sortOf_128 (by decide +kernel) ?_
            obtain ⟨x22, hr, h⟩ := bd_of h
            refine r_callSL (As := [.int (gI 112), .int (gI 101), .int (gI 114), .int (gI 115), .int (gI 111), .int (gI 110)]) (rest := [.ref (V.2.2 0)]) C hl.1 hp (c_X9_w6 l C.2.2.2.2.2.2.2.2.2.2.2 hr) gw_1474 gw_1475 cal_X9_w6 rfl rfl (Nat.le_of_ble_eq_true rfl) ⟨Nat.le_of_ble_eq_true rfl, Nat.le_of_ble_eq_true rfl⟩ dX9_sortOf_130 (fun H locs hp => ?_)
            obtain ⟨x23, hr, h⟩ := bd_of h
            refine r_callVI (As := [.long (gJ x22)]) (rest := []) C hl.1 hp (c_X9_isWord l C.2.2.2.2.2.2.2.2.2.2.2 hr) gw_1463 gw_1465 gw_54 mk_0 ms_0 mc_0 cal_X9_isWord rfl rfl (Nat.le_of_ble_eq_true rfl) ⟨Nat.le_of_ble_eq_true rfl, Nat.le_of_ble_eq_true rfl⟩ dX9_sortOf_133 (fun H locs hp => ?_)
            refine r_if_eq (tgt := 141) C h dX9_sortOf_136 (by decide) (fun h => ?_) (fun h => ?_)
            · refine lv_aload_n C.1 C.2.1 dX9_sortOf_141 rfl (lv_at hl 0 rfl) ?_
              refine r_bipush C dX9_sortOf_142 (by decide +kernel) ?_
              refine r_bipush C dX9_sortOf_144 (by decide +kernel) ?_
              refine r_bipush C dX9_sortOf_146 (by decide +kernel) ?_
              refine r_bipush C dX9_sortOf_148 (by decide +kernel) ?_
              obtain ⟨x24, hr, h⟩ := bd_of h
              refine r_callSL (As := [.int (gI 115), .int (gI 101), .int (gI 97), .int (gI 116)]) (rest := [.ref (V.2.2 0)]) C hl.1 hp (c_X9_w4 l C.2.2.2.2.2.2.2.2.2.2.2 hr) gw_1454 gw_1455 cal_X9_w4 rfl rfl (Nat.le_of_ble_eq_true rfl) ⟨Nat.le_of_ble_eq_true rfl, Nat.le_of_ble_eq_true rfl⟩ dX9_sortOf_150 (fun H locs hp => ?_)
              obtain ⟨x25, hr, h⟩ := bd_of h
              refine r_callVI (As := [.long (gJ x24)]) (rest := []) C hl.1 hp (c_X9_isWord l C.2.2.2.2.2.2.2.2.2.2.2 hr) gw_1463 gw_1465 gw_54 mk_0 ms_0 mc_0 cal_X9_isWord rfl rfl (Nat.le_of_ble_eq_true rfl) ⟨Nat.le_of_ble_eq_true rfl, Nat.le_of_ble_eq_true rfl⟩ dX9_sortOf_153 (fun H locs hp => ?_)
              refine r_if_eq (tgt := 162) C h dX9_sortOf_156 (by decide) (fun h => ?_) (fun h => ?_)
              · refine lv_aload_n C.1 C.2.1 dX9_sortOf_162 rfl (lv_at hl 0 rfl) ?_
                refine r_bipush C dX9_sortOf_163 (by decide +kernel) ?_
                refine r_bipush C dX9_sortOf_165 (by decide +kernel) ?_
                refine r_bipush C dX9_sortOf_167 (by decide +kernel) ?_
                refine r_bipush C dX9_sortOf_169 (by decide +kernel) ?_
                obtain ⟨x26, hr, h⟩ := bd_of h
                refine r_callSL (As := [.int (gI 99), .int (gI 97), .int (gI 108), .int (gI 108)]) (rest := [.ref (V.2.2 0)]) C hl.1 hp (c_X9_w4 l C.2.2.2.2.2.2.2.2.2.2.2 hr) gw_1454 gw_1455 cal_X9_w4 rfl rfl (Nat.le_of_ble_eq_true rfl) ⟨Nat.le_of_ble_eq_true rfl, Nat.le_of_ble_eq_true rfl⟩ dX9_sortOf_171 (fun H locs hp => ?_)
                obtain ⟨x27, hr, h⟩ := bd_of h
                refine r_callVI (As := [.long (gJ x26)]) (rest := []) C hl.1 hp (c_X9_isWord l C.2.2.2.2.2.2.2.2.2.2.2 hr) gw_1463 gw_1465 gw_54 mk_0 ms_0 mc_0 cal_X9_isWord rfl rfl (Nat.le_of_ble_eq_true rfl) ⟨Nat.le_of_ble_eq_true rfl, Nat.le_of_ble_eq_true rfl⟩ dX9_sortOf_174 (fun H locs hp => ?_)
                refine r_if_eq (tgt := 183) C h dX9_sortOf_177 (by decide) (fun h => ?_) (fun h => ?_)
                · refine lv_aload_n C.1 C.2.1 dX9_sortOf_183 rfl (lv_at hl 0 rfl) ?_
                  refine r_bipush C dX9_sortOf_184 (by decide +kernel) ?_
                  refine r_bipush C dX9_sortOf_186 (by decide +kernel) ?_
                  refine r_bipush C dX9_sortOf_188 (by decide +kernel) ?_
                  refine r_bipush C dX9_sortOf_190 (by decide +kernel) ?_
                  obtain ⟨x28, hr, h⟩ := bd_of h
                  refine r_callSL (As := [.int (gI 109), .int (gI 101), .int (gI 110), .int (gI 100)]) (rest := [.ref (V.2.2 0)]) C hl.1 hp (c_X9_w4 l C.2.2.2.2.2.2.2.2.2.2.2 hr) gw_1454 gw_1455 cal_X9_w4 rfl rfl (Nat.le_of_ble_eq_true rfl) ⟨Nat.le_of_ble_eq_true rfl, Nat.le_of_ble_eq_true rfl⟩ dX9_sortOf_192 (fun H locs hp => ?_)
                  obtain ⟨x29, hr, h⟩ := bd_of h
                  refine r_callVI (As := [.long (gJ x28)]) (rest := []) C hl.1 hp (c_X9_isWord l C.2.2.2.2.2.2.2.2.2.2.2 hr) gw_1463 gw_1465 gw_54 mk_0 ms_0 mc_0 cal_X9_isWord rfl rfl (Nat.le_of_ble_eq_true rfl) ⟨Nat.le_of_ble_eq_true rfl, Nat.le_of_ble_eq_true rfl⟩ dX9_sortOf_195 (fun H locs hp => ?_)
                  refine r_if_eq (tgt := 206) C h dX9_sortOf_198 (by decide) (fun h => ?_) (fun h => ?_)
                  · refine lv_aload_n C.1 C.2.1 dX9_sortOf_206 rfl (lv_at hl 0 rfl) ?_
                    refine r_bipush C dX9_sortOf_207 (by decide +kernel) ?_
                    refine r_bipush C dX9_sortOf_209 (by decide +kernel) ?_
                    refine r_bipush C dX9_sortOf_211 (by decide +kernel) ?_
                    refine r_bipush C dX9_sortOf_213 (by decide +kernel) ?_
                    obtain ⟨x30, hr, h⟩ := bd_of h
                    refine r_callSL (As := [.int (gI 101), .int (gI 118), .int (gI 101), .int (gI 110)]) (rest := [.ref (V.2.2 0)]) C hl.1 hp (c_X9_w4 l C.2.2.2.2.2.2.2.2.2.2.2 hr) gw_1454 gw_1455 cal_X9_w4 rfl rfl (Nat.le_of_ble_eq_true rfl) ⟨Nat.le_of_ble_eq_true rfl, Nat.le_of_ble_eq_true rfl⟩ dX9_sortOf_215 (fun H locs hp => ?_)
                    refine r_bipush C dX9_sortOf_218 (by decide +kernel) ?_
                    refine r_bipush C dX9_sortOf_220 (by decide +kernel) ?_
                    refine r_bipush C dX9_sortOf_222 (by decide +kernel) ?_
                    obtain ⟨x31, hr, h⟩ := bd_of h
                    refine r_callSL (As := [.int (gI 105), .int (gI 110), .int (gI 103)]) (rest := [.long (gJ x30), .ref (V.2.2 0)]) C hl.1 hp (c_X9_w3 l C.2.2.2.2.2.2.2.2.2.2.2 hr) gw_1457 gw_1458 cal_X9_w3 rfl rfl (Nat.le_of_ble_eq_true rfl) ⟨Nat.le_of_ble_eq_true rfl, Nat.le_of_ble_eq_true rfl⟩ dX9_sortOf_224 (fun H locs hp => ?_)
                    refine r_bipush C dX9_sortOf_227 (by decide +kernel) ?_
                    obtain ⟨x32, hr, h⟩ := bd_of h
                    refine r_callVI (As := [.long (gJ x30), .long (gJ x31), .int (gI 7)]) (rest := []) C hl.1 hp (c_X9_isLong l C.2.2.2.2.2.2.2.2.2.2.2 hr) gw_1470 gw_1472 gw_55 mk_0 ms_0 mc_0 cal_X9_isLong rfl rfl (Nat.le_of_ble_eq_true rfl) ⟨Nat.le_of_ble_eq_true rfl, Nat.le_of_ble_eq_true rfl⟩ dX9_sortOf_229 (fun H locs hp => ?_)
                    refine r_if_eq (tgt := 240) C h dX9_sortOf_232 (by decide) (fun h => ?_) (fun h => ?_)
                    · refine r_iconst C dX9_sortOf_240 ?_
                      cases h
                      exact hR _ _ _ _ dX9_sortOf_241 rfl hp
                    · refine r_bipush C dX9_sortOf_235 (by decide +kernel) ?_
                      refine r_goto (tgt := 241) C dX9_sortOf_237 (by decide) ?_
                      cases h
                      exact hR _ _ _ _ dX9_sortOf_241 rfl hp
                  · refine r_bipush C dX9_sortOf_201 (by decide +kernel) ?_
                    refine r_goto (tgt := 241) C dX9_sortOf_203 (by decide) ?_
                    cases h
                    exact hR _ _ _ _ dX9_sortOf_241 rfl hp
                · refine r_bipush C dX9_sortOf_180 (by decide +kernel) ?_
                  cases h
                  exact hR _ _ _ _ dX9_sortOf_182 rfl hp
              · refine r_bipush C dX9_sortOf_159 (by decide +kernel) ?_
                cases h
                exact hR _ _ _ _ dX9_sortOf_161 rfl hp
            · refine r_iconst C dX9_sortOf_139 ?_
              cases h
              exact hR _ _ _ _ dX9_sortOf_140 rfl hp
          · refine r_iconst C dX9_sortOf_115 ?_
            cases h
            exact hR _ _ _ _ dX9_sortOf_116 rfl hp
        · refine r_iconst C dX9_sortOf_95 ?_
          cases h
          exact hR _ _ _ _ dX9_sortOf_96 rfl hp
      · refine r_iconst C dX9_sortOf_73 ?_
        cases h
        exact hR _ _ _ _ dX9_sortOf_74 rfl hp
    · refine r_iconst C dX9_sortOf_40 ?_
      cases h
      exact hR _ _ _ _ dX9_sortOf_41 rfl hp
  · refine r_iconst C dX9_sortOf_18 ?_
    cases h
    exact hR _ _ _ _ dX9_sortOf_19 rfl hp
theorem c_X9_sortOf (l : Launch) {V : g_V} (hok : g_ok mG V)  {M : g_M} {x : Int} (h : m_X9_sortOf M = some x) : MetI mG V l yX9_sortOf cX9_sortOf 1 (some .int) 5 115 [.ref (V.2.2 0)] M x M :=
  g_metI hok cal_X9_sortOf.2.2.2 rfl (Nat.le_of_ble_eq_true rfl) (@fun p e R s m args below meth c Q ls C hR hp hl => b_X9_sortOf C hR h hp hl)
set_option maxRecDepth 100000 in
set_option maxHeartbeats 4000000 in
theorem b_X9_clause (C : g_CX mG V p R s m args meth c cX9_clause 5 (some .int) RX9 9 196) {res : Int × g_M} (hR : g_RetI mG V p l e R s m args below meth c Q cX9_clause .int res.1 res.2)  {M : g_M} {H : Heap} {locs : List Loc} {ls : Array Slot} (h : m_X9_clause M = some res) (hp : g_PT mG V M s H locs) (hl : lv_has ls 5 [(0, .ref (V.2.2 0))]) : W p l e R s m args below meth c H locs 0 0 Q (F0 m 0 ls []) := by
  unfold m_X9_clause at h
  refine lv_aload_n C.1 C.2.1 dX9_clause_0 rfl (lv_at hl 0 rfl) ?_
  obtain ⟨x11, hr, h⟩ := bd_of h
  refine r_callVI (As := []) (rest := []) C hl.1 hp (c_X9_sortOf l C.2.2.2.2.2.2.2.2.2.2.2 hr) gw_1450 gw_1452 gw_53 mk_0 ms_0 mc_0 cal_X9_sortOf rfl rfl (Nat.le_of_ble_eq_true rfl) ⟨Nat.le_of_ble_eq_true rfl, Nat.le_of_ble_eq_true rfl⟩ dX9_clause_1 (fun H locs hp => ?_)
  refine r_istore_n (lv' := fun x12 => [(1, .int (gI x12)), (0, .ref (V.2.2 0))]) C h dX9_clause_4 rfl hl (by decide) (fun _ => rfl) (fun x12 ls h hl => ?_)
  refine lv_iload_n C.1 C.2.1 dX9_clause_5 rfl (lv_at hl 0 rfl) ?_
  refine r_if_ge (tgt := 11) C h dX9_clause_6 (by decide) (fun h => ?_) (fun h => ?_)
  · refine r_jn (P := fun J => ∀  (H : Heap) (locs : List Loc) (ls : Array Slot), J  = some res → g_PT mG V M s H locs → lv_has ls 5 [(0, .ref (V.2.2 0)), (1, .int (gI x12))] → W p l e R s m args below meth c H locs 0 0 Q (F0 m 29 ls [])) h ?_ (fun J13 hJ13 h => ?_)
    · intro  H locs ls h hp hl
      refine lv_aload_n C.1 C.2.1 dX9_clause_29 rfl (lv_at hl 0 rfl) ?_
      refine r_getr (t := 3) C hp mk_0 ms_0 mc_0 min_0 (j := 2) (by decide) rfl gw_1258 rfl dX9_clause_30 ?_
      refine lv_aload_n C.1 C.2.1 dX9_clause_33 rfl (lv_at hl 0 rfl) ?_
      refine r_geti (t := 0) C hp mk_0 ms_0 mc_0 min_0 (j := 12) (by decide) rfl gw_1268 rfl dX9_clause_34 ?_
      refine r_iald C hp h mk_3 ms_3 dX9_clause_37 (fun h => ?_)
      refine r_istore_n (lv' := fun x15 => [(2, .int (gI x15)), (0, .ref (V.2.2 0)), (1, .int (gI x12))]) C h dX9_clause_38 rfl hl (by decide) (fun _ => rfl) (fun x15 ls h hl => ?_)
      refine lv_iload_n C.1 C.2.1 dX9_clause_39 rfl (lv_at hl 0 rfl) ?_
      refine r_bipush C dX9_clause_40 (by decide +kernel) ?_
      refine r_icmp_ne (tgt := 48) C h dX9_clause_42 (by decide) (fun h => ?_) (fun h => ?_)
      · refine r_jn (P := fun J => ∀ (M18 : g_M) (H : Heap) (locs : List Loc) (ls : Array Slot), J M18 = some res → g_PT mG V M18 s H locs → lv_has ls 5 [(0, .ref (V.2.2 0)), (1, .int (gI x12)), (2, .int (gI x15))] → W p l e R s m args below meth c H locs 0 0 Q (F0 m 65 ls [])) h ?_ (fun J16 hJ16 h => ?_)
        · intro M18 H locs ls h hp hl
          refine lv_aload_n C.1 C.2.1 dX9_clause_65 rfl (lv_at hl 0 rfl) ?_
          refine lv_iload_n C.1 C.2.1 dX9_clause_66 rfl (lv_at hl 1 rfl) ?_
          refine r_puti C hp h mk_0 ms_0 mc_0 min_0 tyX9 tyX9_ok nmX9 (j := 14) (by decide) rfl gw_1270 rfl rfl rfl dX9_clause_67 (fun M19 H locs h hp => ?_)
          refine lv_aload_n C.1 C.2.1 dX9_clause_70 rfl (lv_at hl 0 rfl) ?_
          obtain ⟨M20, hr, h⟩ := bd_of h
          refine r_callVV (As := []) (rest := []) C hl.1 hp (c_X9_nextToken l C.2.2.2.2.2.2.2.2.2.2.2 hr) gw_1427 gw_1429 gw_50 mk_0 ms_0 mc_0 cal_X9_nextToken rfl rfl (Nat.le_of_ble_eq_true rfl) ⟨Nat.le_of_ble_eq_true rfl, Nat.le_of_ble_eq_true rfl⟩ dX9_clause_71 (fun H locs hp => ?_)
          refine lv_aload_n C.1 C.2.1 dX9_clause_74 rfl (lv_at hl 0 rfl) ?_
          refine r_geti (t := 0) C hp mk_0 ms_0 mc_0 min_0 (j := 12) (by decide) rfl gw_1268 rfl dX9_clause_75 ?_
          refine r_iconst C dX9_clause_78 ?_
          refine r_iadd C dX9_clause_79 ?_
          refine r_iconst C dX9_clause_80 ?_
          refine lv_iload_n C.1 C.2.1 dX9_clause_81 rfl (lv_at hl 2 rfl) ?_
          refine r_imul C dX9_clause_82 ?_
          refine r_iadd C dX9_clause_83 ?_
          refine r_istore_n (lv' := fun x21 => [(3, .int (gI x21)), (0, .ref (V.2.2 0)), (1, .int (gI x12)), (2, .int (gI x15))]) C h dX9_clause_84 rfl hl (by decide) (fun _ => rfl) (fun x21 ls h hl => ?_)
          refine lv_aload_n C.1 C.2.1 dX9_clause_85 rfl (lv_at hl 1 rfl) ?_
          refine r_getr (t := 3) C hp mk_0 ms_0 mc_0 min_0 (j := 2) (by decide) rfl gw_1258 rfl dX9_clause_86 ?_
          refine lv_iload_n C.1 C.2.1 dX9_clause_89 rfl (lv_at hl 0 rfl) ?_
          refine lv_iload_n C.1 C.2.1 dX9_clause_90 rfl (lv_at hl 2 rfl) ?_
          refine r_iast C hp h mk_3 ms_3 dX9_clause_91 (fun M22 H locs h hp => ?_)
          refine lv_aload_n C.1 C.2.1 dX9_clause_92 rfl (lv_at hl 1 rfl) ?_
          refine lv_iload_n C.1 C.2.1 dX9_clause_93 rfl (lv_at hl 2 rfl) ?_
          refine lv_iload_n C.1 C.2.1 dX9_clause_94 rfl (lv_at hl 0 rfl) ?_
          obtain ⟨x23, M24, hr, h⟩ := bW_of h
          refine r_callVI (As := [.int (gI x12), .int (gI x21)]) (rest := []) C hl.1 hp (c_X9_body l C.2.2.2.2.2.2.2.2.2.2.2 hr) gw_1480 gw_1482 gw_56 mk_0 ms_0 mc_0 cal_X9_body rfl rfl (Nat.le_of_ble_eq_true rfl) ⟨Nat.le_of_ble_eq_true rfl, Nat.le_of_ble_eq_true rfl⟩ dX9_clause_95 (fun H locs hp => ?_)
          refine r_istore (lv' := fun x25 => [(4, .int (gI x25)), (3, .int (gI x21)), (0, .ref (V.2.2 0)), (1, .int (gI x12)), (2, .int (gI x15))]) C h dX9_clause_98 hl (by decide) (fun _ => rfl) (fun x25 ls h hl => ?_)
          refine lv_iload C.1 C.2.1 dX9_clause_100 (lv_at hl 0 rfl) ?_
          refine r_if_eq (tgt := 108) C h dX9_clause_102 (by decide) (fun h => ?_) (fun h => ?_)
          · refine lv_aload_n C.1 C.2.1 dX9_clause_108 rfl (lv_at hl 2 rfl) ?_
            refine r_getr (t := 3) C hp mk_0 ms_0 mc_0 min_0 (j := 2) (by decide) rfl gw_1258 rfl dX9_clause_109 ?_
            refine lv_aload_n C.1 C.2.1 dX9_clause_112 rfl (lv_at hl 2 rfl) ?_
            refine r_geti (t := 0) C hp mk_0 ms_0 mc_0 min_0 (j := 12) (by decide) rfl gw_1268 rfl dX9_clause_113 ?_
            refine lv_dup2_11 C.1 C.2.1 dX9_clause_116 rfl rfl ?_
            refine r_iald C hp h mk_3 ms_3 dX9_clause_117 (fun h => ?_)
            refine r_iconst C dX9_clause_118 ?_
            refine r_iadd C dX9_clause_119 ?_
            refine r_iast C hp h mk_3 ms_3 dX9_clause_120 (fun M26 H locs h hp => ?_)
            refine lv_aload_n C.1 C.2.1 dX9_clause_121 rfl (lv_at hl 2 rfl) ?_
            refine r_geti (t := 0) C hp mk_0 ms_0 mc_0 min_0 (j := 9) (by decide) rfl gw_1265 rfl dX9_clause_122 ?_
            refine r_bipush C dX9_clause_125 (by decide +kernel) ?_
            refine r_icmp_eq (tgt := 132) C h dX9_clause_127 (by decide) (fun h => ?_) (fun h => ?_)
            · refine lv_aload_n C.1 C.2.1 dX9_clause_132 rfl (lv_at hl 2 rfl) ?_
              obtain ⟨M27, hr, h⟩ := bd_of h
              refine r_callVV (As := []) (rest := []) C hl.1 hp (c_X9_nextToken l C.2.2.2.2.2.2.2.2.2.2.2 hr) gw_1427 gw_1429 gw_50 mk_0 ms_0 mc_0 cal_X9_nextToken rfl rfl (Nat.le_of_ble_eq_true rfl) ⟨Nat.le_of_ble_eq_true rfl, Nat.le_of_ble_eq_true rfl⟩ dX9_clause_133 (fun H locs hp => ?_)
              refine r_iconst C dX9_clause_136 ?_
              cases h
              exact hR _ _ _ _ dX9_clause_137 rfl hp
            · refine r_iconst C dX9_clause_130 ?_
              cases h
              exact hR _ _ _ _ dX9_clause_131 rfl hp
          · refine lv_iload C.1 C.2.1 dX9_clause_105 (lv_at hl 0 rfl) ?_
            cases h
            exact hR _ _ _ _ dX9_clause_107 rfl hp
        refine lv_iload_n C.1 C.2.1 dX9_clause_48 rfl (lv_at hl 2 rfl) ?_
        refine r_iconst C dX9_clause_49 ?_
        refine r_icmp_gt (tgt := 65) C h dX9_clause_50 (by decide) (fun h => ?_) (fun h => ?_)
        · exact hJ16 _ _ _ _ h hp (lv_sub hl [1, 2, 0] rfl)
        · refine lv_aload_n C.1 C.2.1 dX9_clause_53 rfl (lv_at hl 1 rfl) ?_
          refine lv_dup C.1 C.2.1 dX9_clause_54 rfl ?_
          refine r_geti (t := 0) C hp mk_0 ms_0 mc_0 min_0 (j := 19) (by decide) rfl gw_1275 rfl dX9_clause_55 ?_
          refine r_iconst C dX9_clause_58 ?_
          refine lv_iload_n C.1 C.2.1 dX9_clause_59 rfl (lv_at hl 2 rfl) ?_
          refine r_ishl C dX9_clause_60 ?_
          refine r_ior C dX9_clause_61 ?_
          refine r_puti C hp h mk_0 ms_0 mc_0 min_0 tyX9 tyX9_ok nmX9 (j := 19) (by decide) rfl gw_1275 rfl rfl rfl dX9_clause_62 (fun M17 H locs h hp => ?_)
          exact hJ16 _ _ _ _ h hp (lv_sub hl [1, 2, 0] rfl)
      · refine r_bipush C dX9_clause_45 (by decide +kernel) ?_
        cases h
        exact hR _ _ _ _ dX9_clause_47 rfl hp
    refine lv_iload_n C.1 C.2.1 dX9_clause_11 rfl (lv_at hl 0 rfl) ?_
    refine r_iconst C dX9_clause_12 ?_
    refine r_icmp_gt (tgt := 29) C h dX9_clause_13 (by decide) (fun h => ?_) (fun h => ?_)
    · exact hJ13  _ _ _ h hp (lv_sub hl [1, 0] rfl)
    · refine lv_aload_n C.1 C.2.1 dX9_clause_16 rfl (lv_at hl 1 rfl) ?_
      refine r_geti (t := 0) C hp mk_0 ms_0 mc_0 min_0 (j := 19) (by decide) rfl gw_1275 rfl dX9_clause_17 ?_
      refine lv_iload_n C.1 C.2.1 dX9_clause_20 rfl (lv_at hl 0 rfl) ?_
      obtain ⟨x14, hr, h⟩ := bd_of h
      refine r_callSI (As := [.int (gI (M 0 19)), .int (gI x12)]) (rest := []) C hl.1 hp (c_X9_has l C.2.2.2.2.2.2.2.2.2.2.2 hr) gw_1477 gw_1478 cal_X9_has rfl rfl (Nat.le_of_ble_eq_true rfl) ⟨Nat.le_of_ble_eq_true rfl, Nat.le_of_ble_eq_true rfl⟩ dX9_clause_21 (fun H locs hp => ?_)
      refine r_if_eq (tgt := 29) C h dX9_clause_24 (by decide) (fun h => ?_) (fun h => ?_)
      · exact hJ13  _ _ _ h hp (lv_sub hl [1, 0] rfl)
      · refine r_iconst C dX9_clause_27 ?_
        cases h
        exact hR _ _ _ _ dX9_clause_28 rfl hp
  · refine r_iconst C dX9_clause_9 ?_
    cases h
    exact hR _ _ _ _ dX9_clause_10 rfl hp
theorem c_X9_clause (l : Launch) {V : g_V} (hok : g_ok mG V)  {M : g_M} {x : Int} {M2 : g_M} (h : m_X9_clause M = some (x, M2)) : MetI mG V l yX9_clause cX9_clause 5 (some .int) 9 196 [.ref (V.2.2 0)] M x M2 :=
  g_metI hok cal_X9_clause.2.2.2 rfl (Nat.le_of_ble_eq_true rfl) (@fun p e R s m args below meth c Q ls C hR hp hl => b_X9_clause C hR h hp hl)
set_option maxRecDepth 100000 in
set_option maxHeartbeats 4000000 in
theorem w_X9_readText_L43 (C : g_CX mG V p R s m args meth c cX9_readText 2 (some .int) RX9 10 220) {res : Int × g_M} (hR : g_RetI mG V p l e R s m args below meth c Q cX9_readText .int res.1 res.2)    : ∀ (f : Nat)  (M17 : g_M) (H : Heap) (locs : List Loc) (ls : Array Slot), m_X9_readText_L43  f M17 = some res → g_PT mG V M17 s H locs → lv_has ls 2 [(0, .ref (V.2.2 0))] → W p l e R s m args below meth c H locs 0 0 Q (F0 m 43 ls []) := by
  intro f
  induction f with
  | zero => intro M17 H locs ls h hp hl; cases h
  | succ f ih =>
    intro M17 H locs ls h hp hl
    rw [m_X9_readText_L43] at h
    refine lv_aload_n C.1 C.2.1 dX9_readText_43 rfl (lv_at hl 0 rfl) ?_
    refine r_geti (t := 0) C hp mk_0 ms_0 mc_0 min_0 (j := 9) (by decide) rfl gw_1265 rfl dX9_readText_44 ?_
    refine r_if_eq (tgt := 64) C h dX9_readText_47 (by decide) (fun h => ?_) (fun h => ?_)
    · refine r_iconst C dX9_readText_64 ?_
      cases h
      exact hR _ _ _ _ dX9_readText_65 rfl hp
    · refine lv_aload_n C.1 C.2.1 dX9_readText_50 rfl (lv_at hl 0 rfl) ?_
      obtain ⟨x18, M19, hr, h⟩ := bW_of h
      refine r_callVI (As := []) (rest := []) C hl.1 hp (c_X9_clause l C.2.2.2.2.2.2.2.2.2.2.2 hr) gw_1446 gw_1448 gw_52 mk_0 ms_0 mc_0 cal_X9_clause rfl rfl (Nat.le_of_ble_eq_true rfl) ⟨Nat.le_of_ble_eq_true rfl, Nat.le_of_ble_eq_true rfl⟩ dX9_readText_51 (fun H locs hp => ?_)
      refine r_istore_n (lv' := fun x20 => [(1, .int (gI x20)), (0, .ref (V.2.2 0))]) C h dX9_readText_54 rfl hl (by decide) (fun _ => rfl) (fun x20 ls h hl => ?_)
      refine lv_iload_n C.1 C.2.1 dX9_readText_55 rfl (lv_at hl 0 rfl) ?_
      refine r_if_eq (tgt := 61) C h dX9_readText_56 (by decide) (fun h => ?_) (fun h => ?_)
      · refine r_goto (tgt := 43) C dX9_readText_61 (by decide) ?_
        exact ih _ _ _ _ h hp (lv_sub hl [1] rfl)
      · refine lv_iload_n C.1 C.2.1 dX9_readText_59 rfl (lv_at hl 0 rfl) ?_
        cases h
        exact hR _ _ _ _ dX9_readText_60 rfl hp
set_option maxRecDepth 100000 in
set_option maxHeartbeats 4000000 in
theorem b_X9_readText (C : g_CX mG V p R s m args meth c cX9_readText 2 (some .int) RX9 10 220) {res : Int × g_M} (hR : g_RetI mG V p l e R s m args below meth c Q cX9_readText .int res.1 res.2)  {M : g_M} {H : Heap} {locs : List Loc} {ls : Array Slot} (h : m_X9_readText M = some res) (hp : g_PT mG V M s H locs) (hl : lv_has ls 2 [(0, .ref (V.2.2 0))]) : W p l e R s m args below meth c H locs 0 0 Q (F0 m 0 ls []) := by
  unfold m_X9_readText at h
  refine lv_aload_n C.1 C.2.1 dX9_readText_0 rfl (lv_at hl 0 rfl) ?_
  refine r_sipush C dX9_readText_1 (by decide +kernel) ?_
  refine lv_aload_n C.1 C.2.1 dX9_readText_4 rfl (lv_at hl 0 rfl) ?_
  refine r_getr (t := 1) C hp mk_0 ms_0 mc_0 min_0 (j := 0) (by decide) rfl gw_1256 rfl dX9_readText_5 ?_
  refine r_iconst C dX9_readText_8 ?_
  refine r_iald C hp h mk_1 ms_1 dX9_readText_9 (fun h => ?_)
  refine r_imul C dX9_readText_10 ?_
  refine r_puti C hp h mk_0 ms_0 mc_0 min_0 tyX9 tyX9_ok nmX9 (j := 12) (by decide) rfl gw_1268 rfl rfl rfl dX9_readText_11 (fun M11 H locs h hp => ?_)
  refine lv_aload_n C.1 C.2.1 dX9_readText_14 rfl (lv_at hl 0 rfl) ?_
  refine r_getr (t := 3) C hp mk_0 ms_0 mc_0 min_0 (j := 2) (by decide) rfl gw_1258 rfl dX9_readText_15 ?_
  refine lv_aload_n C.1 C.2.1 dX9_readText_18 rfl (lv_at hl 0 rfl) ?_
  refine r_geti (t := 0) C hp mk_0 ms_0 mc_0 min_0 (j := 12) (by decide) rfl gw_1268 rfl dX9_readText_19 ?_
  refine r_iconst C dX9_readText_22 ?_
  refine r_iast C hp h mk_3 ms_3 dX9_readText_23 (fun M12 H locs h hp => ?_)
  refine lv_aload_n C.1 C.2.1 dX9_readText_24 rfl (lv_at hl 0 rfl) ?_
  refine r_iconst C dX9_readText_25 ?_
  refine r_puti C hp h mk_0 ms_0 mc_0 min_0 tyX9 tyX9_ok nmX9 (j := 13) (by decide) rfl gw_1269 rfl rfl rfl dX9_readText_26 (fun M13 H locs h hp => ?_)
  refine lv_aload_n C.1 C.2.1 dX9_readText_29 rfl (lv_at hl 0 rfl) ?_
  refine r_iconst C dX9_readText_30 ?_
  refine r_puti C hp h mk_0 ms_0 mc_0 min_0 tyX9 tyX9_ok nmX9 (j := 19) (by decide) rfl gw_1275 rfl rfl rfl dX9_readText_31 (fun M14 H locs h hp => ?_)
  refine lv_aload_n C.1 C.2.1 dX9_readText_34 rfl (lv_at hl 0 rfl) ?_
  refine r_iconst C dX9_readText_35 ?_
  refine r_puti C hp h mk_0 ms_0 mc_0 min_0 tyX9 tyX9_ok nmX9 (j := 7) (by decide) rfl gw_1263 rfl rfl rfl dX9_readText_36 (fun M15 H locs h hp => ?_)
  refine lv_aload_n C.1 C.2.1 dX9_readText_39 rfl (lv_at hl 0 rfl) ?_
  obtain ⟨M16, hr, h⟩ := bd_of h
  refine r_callVV (As := []) (rest := []) C hl.1 hp (c_X9_nextToken l C.2.2.2.2.2.2.2.2.2.2.2 hr) gw_1427 gw_1429 gw_50 mk_0 ms_0 mc_0 cal_X9_nextToken rfl rfl (Nat.le_of_ble_eq_true rfl) ⟨Nat.le_of_ble_eq_true rfl, Nat.le_of_ble_eq_true rfl⟩ dX9_readText_40 (fun H locs hp => ?_)
  refine w_X9_readText_L43 C hR _ _ H locs ls h hp hl
theorem c_X9_readText (l : Launch) {V : g_V} (hok : g_ok mG V)  {M : g_M} {x : Int} {M2 : g_M} (h : m_X9_readText M = some (x, M2)) : MetI mG V l yX9_readText cX9_readText 2 (some .int) 10 220 [.ref (V.2.2 0)] M x M2 :=
  g_metI hok cal_X9_readText.2.2.2 rfl (Nat.le_of_ble_eq_true rfl) (@fun p e R s m args below meth c Q ls C hR hp hl => b_X9_readText C hR h hp hl)
set_option maxRecDepth 100000 in
set_option maxHeartbeats 4000000 in
theorem b_X9_text (C : g_CX mG V p R s m args meth c cX9_text 1 (some .int) RX9 11 241) {res : Int × g_M} (hR : g_RetI mG V p l e R s m args below meth c Q cX9_text .int res.1 res.2)  {M : g_M} {H : Heap} {locs : List Loc} {ls : Array Slot} (h : m_X9_text M = some res) (hp : g_PT mG V M s H locs) (hl : lv_has ls 1 [(0, .ref (V.2.2 0))]) : W p l e R s m args below meth c H locs 0 0 Q (F0 m 0 ls []) := by
  unfold m_X9_text at h
  refine lv_aload_n C.1 C.2.1 dX9_text_0 rfl (lv_at hl 0 rfl) ?_
  refine r_getr (t := 1) C hp mk_0 ms_0 mc_0 min_0 (j := 0) (by decide) rfl gw_1256 rfl dX9_text_1 ?_
  refine r_iconst C dX9_text_4 ?_
  refine r_iald C hp h mk_1 ms_1 dX9_text_5 (fun h => ?_)
  refine r_iconst C dX9_text_6 ?_
  refine r_icmp_ne (tgt := 12) C h dX9_text_7 (by decide) (fun h => ?_) (fun h => ?_)
  · refine r_jn (P := fun J => ∀ (x15 : Int) (M16 : g_M) (H : Heap) (locs : List Loc) (ls : Array Slot), J x15 M16 = some res → g_PT mG V M16 s H locs → lv_has ls 1 [(0, .ref (V.2.2 0))] → W p l e R s m args below meth c H locs 0 0 Q (F0 m 36 ls [.int (gI x15), .ref (V.2.2 0)])) h ?_ (fun J11 hJ11 h => ?_)
    · intro x15 M16 H locs ls h hp hl
      refine r_puti C hp h mk_0 ms_0 mc_0 min_0 tyX9 tyX9_ok nmX9 (j := 6) (by decide) rfl gw_1262 rfl rfl rfl dX9_text_36 (fun M17 H locs h hp => ?_)
      refine lv_aload_n C.1 C.2.1 dX9_text_39 rfl (lv_at hl 0 rfl) ?_
      refine r_iconst C dX9_text_40 ?_
      refine r_puti C hp h mk_0 ms_0 mc_0 min_0 tyX9 tyX9_ok nmX9 (j := 4) (by decide) rfl gw_1260 rfl rfl rfl dX9_text_41 (fun M18 H locs h hp => ?_)
      refine lv_aload_n C.1 C.2.1 dX9_text_44 rfl (lv_at hl 0 rfl) ?_
      refine r_geti (t := 0) C hp mk_0 ms_0 mc_0 min_0 (j := 5) (by decide) rfl gw_1261 rfl dX9_text_45 ?_
      refine r_if_eq (tgt := 53) C h dX9_text_48 (by decide) (fun h => ?_) (fun h => ?_)
      · refine lv_aload_n C.1 C.2.1 dX9_text_53 rfl (lv_at hl 0 rfl) ?_
        refine r_getr (t := 1) C hp mk_0 ms_0 mc_0 min_0 (j := 0) (by decide) rfl gw_1256 rfl dX9_text_54 ?_
        refine r_iconst C dX9_text_57 ?_
        refine lv_dup2_11 C.1 C.2.1 dX9_text_58 rfl rfl ?_
        refine r_iald C hp h mk_1 ms_1 dX9_text_59 (fun h => ?_)
        refine r_iconst C dX9_text_60 ?_
        refine r_iadd C dX9_text_61 ?_
        refine r_iast C hp h mk_1 ms_1 dX9_text_62 (fun M19 H locs h hp => ?_)
        refine lv_aload_n C.1 C.2.1 dX9_text_63 rfl (lv_at hl 0 rfl) ?_
        refine r_getr (t := 1) C hp mk_0 ms_0 mc_0 min_0 (j := 0) (by decide) rfl gw_1256 rfl dX9_text_64 ?_
        refine r_iconst C dX9_text_67 ?_
        refine r_iald C hp h mk_1 ms_1 dX9_text_68 (fun h => ?_)
        refine r_iconst C dX9_text_69 ?_
        refine r_isub C dX9_text_70 ?_
        cases h
        exact hR _ _ _ _ dX9_text_71 rfl hp
      · refine r_iconst C dX9_text_51 ?_
        cases h
        exact hR _ _ _ _ dX9_text_52 rfl hp
    refine lv_aload_n C.1 C.2.1 dX9_text_12 rfl (lv_at hl 0 rfl) ?_
    refine lv_aload_n C.1 C.2.1 dX9_text_13 rfl (lv_at hl 0 rfl) ?_
    obtain ⟨x12, M13, hr, h⟩ := bW_of h
    refine r_callVI (As := []) (rest := [.ref (V.2.2 0)]) C hl.1 hp (c_X9_readText l C.2.2.2.2.2.2.2.2.2.2.2 hr) gw_1423 gw_1425 gw_49 mk_0 ms_0 mc_0 cal_X9_readText rfl rfl (Nat.le_of_ble_eq_true rfl) ⟨Nat.le_of_ble_eq_true rfl, Nat.le_of_ble_eq_true rfl⟩ dX9_text_14 (fun H locs hp => ?_)
    refine r_puti C hp h mk_0 ms_0 mc_0 min_0 tyX9 tyX9_ok nmX9 (j := 5) (by decide) rfl gw_1261 rfl rfl rfl dX9_text_17 (fun M14 H locs h hp => ?_)
    refine lv_aload_n C.1 C.2.1 dX9_text_20 rfl (lv_at hl 0 rfl) ?_
    refine lv_aload_n C.1 C.2.1 dX9_text_21 rfl (lv_at hl 0 rfl) ?_
    refine r_geti (t := 0) C hp mk_0 ms_0 mc_0 min_0 (j := 5) (by decide) rfl gw_1261 rfl dX9_text_22 ?_
    refine r_if_ne (tgt := 32) C h dX9_text_25 (by decide) (fun h => ?_) (fun h => ?_)
    · refine lv_aload_n C.1 C.2.1 dX9_text_32 rfl (lv_at hl 0 rfl) ?_
      refine r_geti (t := 0) C hp mk_0 ms_0 mc_0 min_0 (j := 8) (by decide) rfl gw_1264 rfl dX9_text_33 ?_
      exact hJ11 _ _ _ _ _ h hp hl
    · refine r_iconst C dX9_text_28 ?_
      refine r_goto (tgt := 36) C dX9_text_29 (by decide) ?_
      exact hJ11 _ _ _ _ _ h hp hl
  · refine r_iconst C dX9_text_10 ?_
    cases h
    exact hR _ _ _ _ dX9_text_11 rfl hp
theorem c_X9_text (l : Launch) {V : g_V} (hok : g_ok mG V)  {M : g_M} {x : Int} {M2 : g_M} (h : m_X9_text M = some (x, M2)) : MetI mG V l yX9_text cX9_text 1 (some .int) 11 241 [.ref (V.2.2 0)] M x M2 :=
  g_metI hok cal_X9_text.2.2.2 rfl (Nat.le_of_ble_eq_true rfl) (@fun p e R s m args below meth c Q ls C hR hp hl => b_X9_text C hR h hp hl)
set_option maxRecDepth 100000 in
set_option maxHeartbeats 4000000 in
theorem b_X9_fault (C : g_CX mG V p R s m args meth c cX9_fault 2 (some .int) RX9 0 0) {res : Int} {M : g_M} (hR : g_RetI mG V p l e R s m args below meth c Q cX9_fault .int res M) {a1 : Int} {H : Heap} {locs : List Loc} {ls : Array Slot} (h : m_X9_fault a1 M = some res) (hp : g_PT mG V M s H locs) (hl : lv_has ls 2 [(0, .ref (V.2.2 0)), (1, .int (gI a1))]) : W p l e R s m args below meth c H locs 0 0 Q (F0 m 0 ls []) := by
  unfold m_X9_fault at h
  refine lv_iload_n C.1 C.2.1 dX9_fault_0 rfl (lv_at hl 1 rfl) ?_
  refine r_if_ne (tgt := 11) C h dX9_fault_1 (by decide) (fun h => ?_) (fun h => ?_)
  · refine lv_iload_n C.1 C.2.1 dX9_fault_11 rfl (lv_at hl 1 rfl) ?_
    refine r_iconst C dX9_fault_12 ?_
    refine r_icmp_ne (tgt := 23) C h dX9_fault_13 (by decide) (fun h => ?_) (fun h => ?_)
    · refine r_iconst C dX9_fault_23 ?_
      cases h
      exact hR _ _ _ _ dX9_fault_24 rfl hp
    · refine lv_aload_n C.1 C.2.1 dX9_fault_16 rfl (lv_at hl 0 rfl) ?_
      refine r_geti (t := 0) C hp mk_0 ms_0 mc_0 min_0 (j := 6) (by decide) rfl gw_1262 rfl dX9_fault_17 ?_
      refine r_goto (tgt := 24) C dX9_fault_20 (by decide) ?_
      cases h
      exact hR _ _ _ _ dX9_fault_24 rfl hp
  · refine lv_aload_n C.1 C.2.1 dX9_fault_4 rfl (lv_at hl 0 rfl) ?_
    refine r_geti (t := 0) C hp mk_0 ms_0 mc_0 min_0 (j := 5) (by decide) rfl gw_1261 rfl dX9_fault_5 ?_
    refine r_goto (tgt := 24) C dX9_fault_8 (by decide) ?_
    cases h
    exact hR _ _ _ _ dX9_fault_24 rfl hp
theorem c_X9_fault (l : Launch) {V : g_V} (hok : g_ok mG V) {a1 : Int} {M : g_M} {x : Int} (h : m_X9_fault a1 M = some x) : MetI mG V l yX9_fault cX9_fault 2 (some .int) 0 0 [.ref (V.2.2 0), .int (gI a1)] M x M :=
  g_metI hok cal_X9_fault.2.2.2 rfl (Nat.le_of_ble_eq_true rfl) (@fun p e R s m args below meth c Q ls C hR hp hl => b_X9_fault C hR h hp hl)
set_option maxRecDepth 100000 in
set_option maxHeartbeats 4000000 in
theorem b_X9_by (C : g_CX mG V p R s m args meth c cX9_by 2 (some .boolean) RX9 1 22) {res : Int × g_M} (hR : g_RetI mG V p l e R s m args below meth c Q cX9_by .boolean res.1 res.2) {a1 : Int} {M : g_M} {H : Heap} {locs : List Loc} {ls : Array Slot} (h : m_X9_by a1 M = some res) (hp : g_PT mG V M s H locs) (hl : lv_has ls 2 [(0, .ref (V.2.2 0)), (1, .int (gI a1))]) : W p l e R s m args below meth c H locs 0 0 Q (F0 m 0 ls []) := by
  unfold m_X9_by at h
  refine lv_iload_n C.1 C.2.1 dX9_by_0 rfl (lv_at hl 1 rfl) ?_
  refine r_iconst C dX9_by_1 ?_
  refine lv_aload_n C.1 C.2.1 dX9_by_2 rfl (lv_at hl 0 rfl) ?_
  refine r_getr (t := 1) C hp mk_0 ms_0 mc_0 min_0 (j := 0) (by decide) rfl gw_1256 rfl dX9_by_3 ?_
  refine r_iconst C dX9_by_6 ?_
  refine r_iald C hp h mk_1 ms_1 dX9_by_7 (fun h => ?_)
  refine r_iconst C dX9_by_8 ?_
  refine r_isub C dX9_by_9 ?_
  obtain ⟨x11, hr, h⟩ := bd_of h
  refine r_callSI (As := [.int (gI a1), .int (gI (-1)), .int (gI ((M 1 (gs 1).toNat) - 1))]) (rest := []) C hl.1 hp (c_X9_isIn l C.2.2.2.2.2.2.2.2.2.2.2 hr) gw_1378 gw_1379 cal_X9_isIn rfl rfl (Nat.le_of_ble_eq_true rfl) ⟨Nat.le_of_ble_eq_true rfl, Nat.le_of_ble_eq_true rfl⟩ dX9_by_10 (fun H locs hp => ?_)
  refine r_if_ne (tgt := 18) C h dX9_by_13 (by decide) (fun h => ?_) (fun h => ?_)
  · refine lv_aload_n C.1 C.2.1 dX9_by_18 rfl (lv_at hl 0 rfl) ?_
    refine r_getr (t := 1) C hp mk_0 ms_0 mc_0 min_0 (j := 0) (by decide) rfl gw_1256 rfl dX9_by_19 ?_
    refine r_iconst C dX9_by_22 ?_
    refine lv_iload_n C.1 C.2.1 dX9_by_23 rfl (lv_at hl 1 rfl) ?_
    refine r_iast C hp h mk_1 ms_1 dX9_by_24 (fun M12 H locs h hp => ?_)
    refine r_iconst C dX9_by_25 ?_
    cases h
    exact hR _ _ _ _ dX9_by_26 g_nz1 hp
  · refine r_iconst C dX9_by_16 ?_
    cases h
    exact hR _ _ _ _ dX9_by_17 g_nz0 hp
theorem c_X9_by (l : Launch) {V : g_V} (hok : g_ok mG V) {a1 : Int} {M : g_M} {x : Int} {M2 : g_M} (h : m_X9_by a1 M = some (x, M2)) : MetI mG V l yX9_by cX9_by 2 (some .boolean) 1 22 [.ref (V.2.2 0), .int (gI a1)] M x M2 :=
  g_metI hok cal_X9_by.2.2.2 rfl (Nat.le_of_ble_eq_true rfl) (@fun p e R s m args below meth c Q ls C hR hp hl => b_X9_by C hR h hp hl)
set_option maxRecDepth 100000 in
set_option maxHeartbeats 4000000 in
theorem b_X9_clip (C : g_CX mG V p R s m args meth c cX9_clip 2 (some .long) RX9 0 0) {res : Int} {M : g_M} (hR : g_RetL mG V p l e R s m args below meth c Q cX9_clip res M) {a1 : Int} {H : Heap} {locs : List Loc} {ls : Array Slot} (h : m_X9_clip a1 = some res) (hp : g_PT mG V M s H locs) (hl : lv_has ls 2 [(0, .long (gJ a1))]) : W p l e R s m args below meth c H locs 0 0 Q (F0 m 0 ls []) := by
  unfold m_X9_clip at h
  refine lv_lload_n C.1 C.2.1 dX9_clip_0 rfl (lv_at hl 0 rfl) ?_
  refine r_ldc2 (n := 1000000) C gw_1669 (by decide +kernel) dX9_clip_1 ?_
  refine r_lcmp C dX9_clip_4 ?_
  refine r_if_le (tgt := 14) C h dX9_clip_5 (by decide) (fun h => ?_) (fun h => ?_)
  · refine lv_lload_n C.1 C.2.1 dX9_clip_14 rfl (lv_at hl 0 rfl) ?_
    refine r_ldc2 (n := (-1000000)) C gw_1670 (by decide +kernel) dX9_clip_15 ?_
    refine r_lcmp C dX9_clip_18 ?_
    refine r_if_ge (tgt := 28) C h dX9_clip_19 (by decide) (fun h => ?_) (fun h => ?_)
    · refine lv_lload_n C.1 C.2.1 dX9_clip_28 rfl (lv_at hl 0 rfl) ?_
      cases h
      exact hR _ _ _ _ dX9_clip_29 hp
    · refine r_ldc2 (n := (-1000000)) C gw_1670 (by decide +kernel) dX9_clip_22 ?_
      refine r_goto (tgt := 29) C dX9_clip_25 (by decide) ?_
      cases h
      exact hR _ _ _ _ dX9_clip_29 hp
  · refine r_ldc2 (n := 1000000) C gw_1669 (by decide +kernel) dX9_clip_8 ?_
    refine r_goto (tgt := 29) C dX9_clip_11 (by decide) ?_
    cases h
    exact hR _ _ _ _ dX9_clip_29 hp
theorem c_X9_clip (l : Launch) {V : g_V} (hok : g_ok mG V) {a1 : Int} {M : g_M} {x : Int} (h : m_X9_clip a1 = some x) : MetL mG V l yX9_clip cX9_clip 2 (some .long) 0 0 [.long (gJ a1)] M x M :=
  g_metL hok cal_X9_clip.2.2.2 rfl (Nat.le_of_ble_eq_true rfl) (@fun p e R s m args below meth c Q ls C hR hp hl => b_X9_clip C hR h hp hl)
end
