theorem d_M_init_0 : decode b_M_init 0 = .ok (.aload_n 0, 1) := by decide +kernel
theorem d_M_init_1 : decode b_M_init 1 = .ok (.invokespecial 1, 3) := by decide +kernel
theorem d_M_init_4 : decode b_M_init 4 = .ok (.aload_n 0, 1) := by decide +kernel
theorem d_M_init_5 : decode b_M_init 5 = .ok (.bipush 8, 2) := by decide +kernel
theorem d_M_init_7 : decode b_M_init 7 = .ok (.newarray .boolean, 2) := by decide +kernel
theorem d_M_init_9 : decode b_M_init 9 = .ok (.putfield 7, 3) := by decide +kernel
theorem d_M_init_12 : decode b_M_init 12 = .ok (.aload_n 0, 1) := by decide +kernel
theorem d_M_init_13 : decode b_M_init 13 = .ok (.bipush 8, 2) := by decide +kernel
theorem d_M_init_15 : decode b_M_init 15 = .ok (.newarray .int, 2) := by decide +kernel
theorem d_M_init_17 : decode b_M_init 17 = .ok (.putfield 13, 3) := by decide +kernel
theorem d_M_init_20 : decode b_M_init 20 = .ok (.aload_n 0, 1) := by decide +kernel
theorem d_M_init_21 : decode b_M_init 21 = .ok (.bipush 8, 2) := by decide +kernel
theorem d_M_init_23 : decode b_M_init 23 = .ok (.newarray .int, 2) := by decide +kernel
theorem d_M_init_25 : decode b_M_init 25 = .ok (.putfield 17, 3) := by decide +kernel
theorem d_M_init_28 : decode b_M_init 28 = .ok (.aload_n 0, 1) := by decide +kernel
theorem d_M_init_29 : decode b_M_init 29 = .ok (.bipush 13, 2) := by decide +kernel
theorem d_M_init_31 : decode b_M_init 31 = .ok (.newarray .int, 2) := by decide +kernel
theorem d_M_init_33 : decode b_M_init 33 = .ok (.putfield 20, 3) := by decide +kernel
theorem d_M_init_36 : decode b_M_init 36 = .ok (.aload_n 0, 1) := by decide +kernel
theorem d_M_init_37 : decode b_M_init 37 = .ok (.bipush 13, 2) := by decide +kernel
theorem d_M_init_39 : decode b_M_init 39 = .ok (.newarray .int, 2) := by decide +kernel
theorem d_M_init_41 : decode b_M_init 41 = .ok (.putfield 23, 3) := by decide +kernel
theorem d_M_init_44 : decode b_M_init 44 = .ok (.aload_n 0, 1) := by decide +kernel
theorem d_M_init_45 : decode b_M_init 45 = .ok (.bipush 13, 2) := by decide +kernel
theorem d_M_init_47 : decode b_M_init 47 = .ok (.newarray .int, 2) := by decide +kernel
theorem d_M_init_49 : decode b_M_init 49 = .ok (.putfield 26, 3) := by decide +kernel
theorem d_M_init_52 : decode b_M_init 52 = .ok (.aload_n 0, 1) := by decide +kernel
theorem d_M_init_53 : decode b_M_init 53 = .ok (.bipush 13, 2) := by decide +kernel
theorem d_M_init_55 : decode b_M_init 55 = .ok (.newarray .int, 2) := by decide +kernel
theorem d_M_init_57 : decode b_M_init 57 = .ok (.putfield 29, 3) := by decide +kernel
theorem d_M_init_60 : decode b_M_init 60 = .ok (.aload_n 0, 1) := by decide +kernel
theorem d_M_init_61 : decode b_M_init 61 = .ok (.bipush 13, 2) := by decide +kernel
theorem d_M_init_63 : decode b_M_init 63 = .ok (.newarray .int, 2) := by decide +kernel
theorem d_M_init_65 : decode b_M_init 65 = .ok (.putfield 32, 3) := by decide +kernel
theorem d_M_init_68 : decode b_M_init 68 = .ok (.aload_n 0, 1) := by decide +kernel
theorem d_M_init_69 : decode b_M_init 69 = .ok (.bipush 8, 2) := by decide +kernel
theorem d_M_init_71 : decode b_M_init 71 = .ok (.newarray .long, 2) := by decide +kernel
theorem d_M_init_73 : decode b_M_init 73 = .ok (.putfield 35, 3) := by decide +kernel
theorem d_M_init_76 : decode b_M_init 76 = .ok (.aload_n 0, 1) := by decide +kernel
theorem d_M_init_77 : decode b_M_init 77 = .ok (.bipush 8, 2) := by decide +kernel
theorem d_M_init_79 : decode b_M_init 79 = .ok (.newarray .long, 2) := by decide +kernel
theorem d_M_init_81 : decode b_M_init 81 = .ok (.putfield 39, 3) := by decide +kernel
theorem d_M_init_84 : decode b_M_init 84 = .ok (.aload_n 0, 1) := by decide +kernel
theorem d_M_init_85 : decode b_M_init 85 = .ok (.bipush 8, 2) := by decide +kernel
theorem d_M_init_87 : decode b_M_init 87 = .ok (.newarray .int, 2) := by decide +kernel
theorem d_M_init_89 : decode b_M_init 89 = .ok (.putfield 42, 3) := by decide +kernel
theorem d_M_init_92 : decode b_M_init 92 = .ok (.aload_n 0, 1) := by decide +kernel
theorem d_M_init_93 : decode b_M_init 93 = .ok (.bipush 8, 2) := by decide +kernel
theorem d_M_init_95 : decode b_M_init 95 = .ok (.newarray .int, 2) := by decide +kernel
theorem d_M_init_97 : decode b_M_init 97 = .ok (.putfield 45, 3) := by decide +kernel
theorem d_M_init_100 : decode b_M_init 100 = .ok (.aload_n 0, 1) := by decide +kernel
theorem d_M_init_101 : decode b_M_init 101 = .ok (.bipush 8, 2) := by decide +kernel
theorem d_M_init_103 : decode b_M_init 103 = .ok (.newarray .int, 2) := by decide +kernel
theorem d_M_init_105 : decode b_M_init 105 = .ok (.putfield 48, 3) := by decide +kernel
theorem d_M_init_108 : decode b_M_init 108 = .ok (.aload_n 0, 1) := by decide +kernel
theorem d_M_init_109 : decode b_M_init 109 = .ok (.bipush 64, 2) := by decide +kernel
theorem d_M_init_111 : decode b_M_init 111 = .ok (.newarray .int, 2) := by decide +kernel
theorem d_M_init_113 : decode b_M_init 113 = .ok (.putfield 51, 3) := by decide +kernel
theorem d_M_init_116 : decode b_M_init 116 = .ok (.aload_n 0, 1) := by decide +kernel
theorem d_M_init_117 : decode b_M_init 117 = .ok (.bipush 12, 2) := by decide +kernel
theorem d_M_init_119 : decode b_M_init 119 = .ok (.newarray .int, 2) := by decide +kernel
theorem d_M_init_121 : decode b_M_init 121 = .ok (.putfield 54, 3) := by decide +kernel
theorem d_M_init_124 : decode b_M_init 124 = .ok (.aload_n 0, 1) := by decide +kernel
theorem d_M_init_125 : decode b_M_init 125 = .ok (.bipush 12, 2) := by decide +kernel
theorem d_M_init_127 : decode b_M_init 127 = .ok (.newarray .int, 2) := by decide +kernel
theorem d_M_init_129 : decode b_M_init 129 = .ok (.putfield 57, 3) := by decide +kernel
theorem d_M_init_132 : decode b_M_init 132 = .ok (.aload_n 0, 1) := by decide +kernel
theorem d_M_init_133 : decode b_M_init 133 = .ok (.sipush 4800, 3) := by decide +kernel
theorem d_M_init_136 : decode b_M_init 136 = .ok (.newarray .int, 2) := by decide +kernel
theorem d_M_init_138 : decode b_M_init 138 = .ok (.putfield 60, 3) := by decide +kernel
theorem d_M_init_141 : decode b_M_init 141 = .ok (.aload_n 0, 1) := by decide +kernel
theorem d_M_init_142 : decode b_M_init 142 = .ok (.bipush 12, 2) := by decide +kernel
theorem d_M_init_144 : decode b_M_init 144 = .ok (.newarray .int, 2) := by decide +kernel
theorem d_M_init_146 : decode b_M_init 146 = .ok (.putfield 63, 3) := by decide +kernel
theorem d_M_init_149 : decode b_M_init 149 = .ok (.aload_n 0, 1) := by decide +kernel
theorem d_M_init_150 : decode b_M_init 150 = .ok (.bipush 8, 2) := by decide +kernel
theorem d_M_init_152 : decode b_M_init 152 = .ok (.newarray .int, 2) := by decide +kernel
theorem d_M_init_154 : decode b_M_init 154 = .ok (.putfield 66, 3) := by decide +kernel
theorem d_M_init_157 : decode b_M_init 157 = .ok (.aload_n 0, 1) := by decide +kernel
theorem d_M_init_158 : decode b_M_init 158 = .ok (.bipush 8, 2) := by decide +kernel
theorem d_M_init_160 : decode b_M_init 160 = .ok (.newarray .int, 2) := by decide +kernel
theorem d_M_init_162 : decode b_M_init 162 = .ok (.putfield 69, 3) := by decide +kernel
theorem d_M_init_165 : decode b_M_init 165 = .ok (.aload_n 0, 1) := by decide +kernel
theorem d_M_init_166 : decode b_M_init 166 = .ok (.bipush 64, 2) := by decide +kernel
theorem d_M_init_168 : decode b_M_init 168 = .ok (.newarray .int, 2) := by decide +kernel
theorem d_M_init_170 : decode b_M_init 170 = .ok (.putfield 72, 3) := by decide +kernel
theorem d_M_init_173 : decode b_M_init 173 = .ok (.return_, 1) := by decide +kernel
theorem d_M_isActor_0 : decode b_M_isActor 0 = .ok (.iload_n 1, 1) := by decide +kernel
theorem d_M_isActor_1 : decode b_M_isActor 1 = .ok (.ifCond .lt 22, 3) := by decide +kernel
theorem d_M_isActor_4 : decode b_M_isActor 4 = .ok (.iload_n 1, 1) := by decide +kernel
theorem d_M_isActor_5 : decode b_M_isActor 5 = .ok (.bipush 8, 2) := by decide +kernel
theorem d_M_isActor_7 : decode b_M_isActor 7 = .ok (.if_icmp .ge 16, 3) := by decide +kernel
theorem d_M_isActor_10 : decode b_M_isActor 10 = .ok (.aload_n 0, 1) := by decide +kernel
theorem d_M_isActor_11 : decode b_M_isActor 11 = .ok (.getfield 7, 3) := by decide +kernel
theorem d_M_isActor_14 : decode b_M_isActor 14 = .ok (.iload_n 1, 1) := by decide +kernel
theorem d_M_isActor_15 : decode b_M_isActor 15 = .ok (.baload, 1) := by decide +kernel
theorem d_M_isActor_16 : decode b_M_isActor 16 = .ok (.ifCond .eq 7, 3) := by decide +kernel
theorem d_M_isActor_19 : decode b_M_isActor 19 = .ok (.iconst 1, 1) := by decide +kernel
theorem d_M_isActor_20 : decode b_M_isActor 20 = .ok (.goto 4, 3) := by decide +kernel
theorem d_M_isActor_23 : decode b_M_isActor 23 = .ok (.iconst 0, 1) := by decide +kernel
theorem d_M_isActor_24 : decode b_M_isActor 24 = .ok (.ireturn, 1) := by decide +kernel
theorem d_M_actor_0 : decode b_M_actor 0 = .ok (.iload_n 1, 1) := by decide +kernel
theorem d_M_actor_1 : decode b_M_actor 1 = .ok (.ifCond .lt 18, 3) := by decide +kernel
theorem d_M_actor_4 : decode b_M_actor 4 = .ok (.iload_n 1, 1) := by decide +kernel
theorem d_M_actor_5 : decode b_M_actor 5 = .ok (.bipush 7, 2) := by decide +kernel
theorem d_M_actor_7 : decode b_M_actor 7 = .ok (.if_icmp .gt 12, 3) := by decide +kernel
theorem d_M_actor_10 : decode b_M_actor 10 = .ok (.iload_n 2, 1) := by decide +kernel
theorem d_M_actor_11 : decode b_M_actor 11 = .ok (.ifCond .lt 8, 3) := by decide +kernel
theorem d_M_actor_14 : decode b_M_actor 14 = .ok (.iload_n 2, 1) := by decide +kernel
theorem d_M_actor_15 : decode b_M_actor 15 = .ok (.iconst 3, 1) := by decide +kernel
theorem d_M_actor_16 : decode b_M_actor 16 = .ok (.if_icmp .le 5, 3) := by decide +kernel
theorem d_M_actor_19 : decode b_M_actor 19 = .ok (.iconst (-1), 1) := by decide +kernel
theorem d_M_actor_20 : decode b_M_actor 20 = .ok (.ireturn, 1) := by decide +kernel
theorem d_M_actor_21 : decode b_M_actor 21 = .ok (.aload_n 0, 1) := by decide +kernel
theorem d_M_actor_22 : decode b_M_actor 22 = .ok (.getfield 7, 3) := by decide +kernel
theorem d_M_actor_25 : decode b_M_actor 25 = .ok (.iload_n 1, 1) := by decide +kernel
theorem d_M_actor_26 : decode b_M_actor 26 = .ok (.iconst 1, 1) := by decide +kernel
theorem d_M_actor_27 : decode b_M_actor 27 = .ok (.bastore, 1) := by decide +kernel
theorem d_M_actor_28 : decode b_M_actor 28 = .ok (.aload_n 0, 1) := by decide +kernel
theorem d_M_actor_29 : decode b_M_actor 29 = .ok (.getfield 13, 3) := by decide +kernel
theorem d_M_actor_32 : decode b_M_actor 32 = .ok (.iload_n 1, 1) := by decide +kernel
theorem d_M_actor_33 : decode b_M_actor 33 = .ok (.iload_n 2, 1) := by decide +kernel
theorem d_M_actor_34 : decode b_M_actor 34 = .ok (.iastore, 1) := by decide +kernel
theorem d_M_actor_35 : decode b_M_actor 35 = .ok (.aload_n 0, 1) := by decide +kernel
theorem d_M_actor_36 : decode b_M_actor 36 = .ok (.getfield 17, 3) := by decide +kernel
theorem d_M_actor_39 : decode b_M_actor 39 = .ok (.iload_n 1, 1) := by decide +kernel
theorem d_M_actor_40 : decode b_M_actor 40 = .ok (.iload_n 3, 1) := by decide +kernel
theorem d_M_actor_41 : decode b_M_actor 41 = .ok (.iastore, 1) := by decide +kernel
theorem d_M_actor_42 : decode b_M_actor 42 = .ok (.aload_n 0, 1) := by decide +kernel
theorem d_M_actor_43 : decode b_M_actor 43 = .ok (.iconst 0, 1) := by decide +kernel
theorem d_M_actor_44 : decode b_M_actor 44 = .ok (.putfield 75, 3) := by decide +kernel
theorem d_M_actor_47 : decode b_M_actor 47 = .ok (.iconst 0, 1) := by decide +kernel
theorem d_M_actor_48 : decode b_M_actor 48 = .ok (.ireturn, 1) := by decide +kernel
theorem d_M_edge_0 : decode b_M_edge 0 = .ok (.aload_n 0, 1) := by decide +kernel
theorem d_M_edge_1 : decode b_M_edge 1 = .ok (.iload_n 1, 1) := by decide +kernel
theorem d_M_edge_2 : decode b_M_edge 2 = .ok (.invokevirtual 79, 3) := by decide +kernel
theorem d_M_edge_5 : decode b_M_edge 5 = .ok (.ifCond .eq 47, 3) := by decide +kernel
theorem d_M_edge_8 : decode b_M_edge 8 = .ok (.aload_n 0, 1) := by decide +kernel
theorem d_M_edge_9 : decode b_M_edge 9 = .ok (.iload_n 2, 1) := by decide +kernel
theorem d_M_edge_10 : decode b_M_edge 10 = .ok (.invokevirtual 79, 3) := by decide +kernel
theorem d_M_edge_13 : decode b_M_edge 13 = .ok (.ifCond .eq 39, 3) := by decide +kernel
theorem d_M_edge_16 : decode b_M_edge 16 = .ok (.iload_n 3, 1) := by decide +kernel
theorem d_M_edge_17 : decode b_M_edge 17 = .ok (.iconst 1, 1) := by decide +kernel
theorem d_M_edge_18 : decode b_M_edge 18 = .ok (.if_icmp .lt 34, 3) := by decide +kernel
theorem d_M_edge_21 : decode b_M_edge 21 = .ok (.iload_n 3, 1) := by decide +kernel
theorem d_M_edge_22 : decode b_M_edge 22 = .ok (.bipush 6, 2) := by decide +kernel
theorem d_M_edge_24 : decode b_M_edge 24 = .ok (.if_icmp .gt 28, 3) := by decide +kernel
theorem d_M_edge_27 : decode b_M_edge 27 = .ok (.iload 4, 2) := by decide +kernel
theorem d_M_edge_29 : decode b_M_edge 29 = .ok (.iconst 1, 1) := by decide +kernel
theorem d_M_edge_30 : decode b_M_edge 30 = .ok (.if_icmp .lt 22, 3) := by decide +kernel
theorem d_M_edge_33 : decode b_M_edge 33 = .ok (.iload 4, 2) := by decide +kernel
theorem d_M_edge_35 : decode b_M_edge 35 = .ok (.bipush 6, 2) := by decide +kernel
theorem d_M_edge_37 : decode b_M_edge 37 = .ok (.if_icmp .gt 15, 3) := by decide +kernel
theorem d_M_edge_40 : decode b_M_edge 40 = .ok (.iload 5, 2) := by decide +kernel
theorem d_M_edge_42 : decode b_M_edge 42 = .ok (.ifCond .lt 10, 3) := by decide +kernel
theorem d_M_edge_45 : decode b_M_edge 45 = .ok (.iload 5, 2) := by decide +kernel
theorem d_M_edge_47 : decode b_M_edge 47 = .ok (.bipush 12, 2) := by decide +kernel
theorem d_M_edge_49 : decode b_M_edge 49 = .ok (.if_icmp .le 5, 3) := by decide +kernel
theorem d_M_edge_52 : decode b_M_edge 52 = .ok (.iconst (-1), 1) := by decide +kernel
theorem d_M_edge_53 : decode b_M_edge 53 = .ok (.ireturn, 1) := by decide +kernel
theorem d_M_edge_54 : decode b_M_edge 54 = .ok (.aload_n 0, 1) := by decide +kernel
theorem d_M_edge_55 : decode b_M_edge 55 = .ok (.getfield 83, 3) := by decide +kernel
theorem d_M_edge_58 : decode b_M_edge 58 = .ok (.bipush 12, 2) := by decide +kernel
theorem d_M_edge_60 : decode b_M_edge 60 = .ok (.if_icmp .ne 6, 3) := by decide +kernel
theorem d_M_edge_63 : decode b_M_edge 63 = .ok (.bipush (-2), 2) := by decide +kernel
theorem d_M_edge_65 : decode b_M_edge 65 = .ok (.ireturn, 1) := by decide +kernel
theorem d_M_edge_66 : decode b_M_edge 66 = .ok (.aload_n 0, 1) := by decide +kernel
theorem d_M_edge_67 : decode b_M_edge 67 = .ok (.getfield 20, 3) := by decide +kernel
theorem d_M_edge_70 : decode b_M_edge 70 = .ok (.aload_n 0, 1) := by decide +kernel
theorem d_M_edge_71 : decode b_M_edge 71 = .ok (.getfield 83, 3) := by decide +kernel
theorem d_M_edge_74 : decode b_M_edge 74 = .ok (.iload_n 1, 1) := by decide +kernel
theorem d_M_edge_75 : decode b_M_edge 75 = .ok (.iastore, 1) := by decide +kernel
theorem d_M_edge_76 : decode b_M_edge 76 = .ok (.aload_n 0, 1) := by decide +kernel
theorem d_M_edge_77 : decode b_M_edge 77 = .ok (.getfield 23, 3) := by decide +kernel
theorem d_M_edge_80 : decode b_M_edge 80 = .ok (.aload_n 0, 1) := by decide +kernel
theorem d_M_edge_81 : decode b_M_edge 81 = .ok (.getfield 83, 3) := by decide +kernel
theorem d_M_edge_84 : decode b_M_edge 84 = .ok (.iload_n 2, 1) := by decide +kernel
theorem d_M_edge_85 : decode b_M_edge 85 = .ok (.iastore, 1) := by decide +kernel
theorem d_M_edge_86 : decode b_M_edge 86 = .ok (.aload_n 0, 1) := by decide +kernel
theorem d_M_edge_87 : decode b_M_edge 87 = .ok (.getfield 26, 3) := by decide +kernel
theorem d_M_edge_90 : decode b_M_edge 90 = .ok (.aload_n 0, 1) := by decide +kernel
theorem d_M_edge_91 : decode b_M_edge 91 = .ok (.getfield 83, 3) := by decide +kernel
theorem d_M_edge_94 : decode b_M_edge 94 = .ok (.iload_n 3, 1) := by decide +kernel
theorem d_M_edge_95 : decode b_M_edge 95 = .ok (.iastore, 1) := by decide +kernel
theorem d_M_edge_96 : decode b_M_edge 96 = .ok (.aload_n 0, 1) := by decide +kernel
theorem d_M_edge_97 : decode b_M_edge 97 = .ok (.getfield 29, 3) := by decide +kernel
theorem d_M_edge_100 : decode b_M_edge 100 = .ok (.aload_n 0, 1) := by decide +kernel
theorem d_M_edge_101 : decode b_M_edge 101 = .ok (.getfield 83, 3) := by decide +kernel
theorem d_M_edge_104 : decode b_M_edge 104 = .ok (.iload 4, 2) := by decide +kernel
theorem d_M_edge_106 : decode b_M_edge 106 = .ok (.iastore, 1) := by decide +kernel
theorem d_M_edge_107 : decode b_M_edge 107 = .ok (.aload_n 0, 1) := by decide +kernel
theorem d_M_edge_108 : decode b_M_edge 108 = .ok (.getfield 32, 3) := by decide +kernel
theorem d_M_edge_111 : decode b_M_edge 111 = .ok (.aload_n 0, 1) := by decide +kernel
theorem d_M_edge_112 : decode b_M_edge 112 = .ok (.getfield 83, 3) := by decide +kernel
theorem d_M_edge_115 : decode b_M_edge 115 = .ok (.iload 5, 2) := by decide +kernel
theorem d_M_edge_117 : decode b_M_edge 117 = .ok (.iastore, 1) := by decide +kernel
theorem d_M_edge_118 : decode b_M_edge 118 = .ok (.aload_n 0, 1) := by decide +kernel
theorem d_M_edge_119 : decode b_M_edge 119 = .ok (.dup, 1) := by decide +kernel
theorem d_M_edge_120 : decode b_M_edge 120 = .ok (.getfield 83, 3) := by decide +kernel
theorem d_M_edge_123 : decode b_M_edge 123 = .ok (.iconst 1, 1) := by decide +kernel
theorem d_M_edge_124 : decode b_M_edge 124 = .ok (.iadd, 1) := by decide +kernel
theorem d_M_edge_125 : decode b_M_edge 125 = .ok (.putfield 83, 3) := by decide +kernel
theorem d_M_edge_128 : decode b_M_edge 128 = .ok (.aload_n 0, 1) := by decide +kernel
theorem d_M_edge_129 : decode b_M_edge 129 = .ok (.iconst 0, 1) := by decide +kernel
theorem d_M_edge_130 : decode b_M_edge 130 = .ok (.putfield 75, 3) := by decide +kernel
theorem d_M_edge_133 : decode b_M_edge 133 = .ok (.aload_n 0, 1) := by decide +kernel
theorem d_M_edge_134 : decode b_M_edge 134 = .ok (.getfield 83, 3) := by decide +kernel
theorem d_M_edge_137 : decode b_M_edge 137 = .ok (.iconst 1, 1) := by decide +kernel
theorem d_M_edge_138 : decode b_M_edge 138 = .ok (.isub, 1) := by decide +kernel
theorem d_M_edge_139 : decode b_M_edge 139 = .ok (.ireturn, 1) := by decide +kernel
theorem d_M_unedge_0 : decode b_M_unedge 0 = .ok (.iload_n 1, 1) := by decide +kernel
theorem d_M_unedge_1 : decode b_M_unedge 1 = .ok (.ifCond .lt 11, 3) := by decide +kernel
theorem d_M_unedge_4 : decode b_M_unedge 4 = .ok (.iload_n 1, 1) := by decide +kernel
theorem d_M_unedge_5 : decode b_M_unedge 5 = .ok (.aload_n 0, 1) := by decide +kernel
theorem d_M_unedge_6 : decode b_M_unedge 6 = .ok (.getfield 83, 3) := by decide +kernel
theorem d_M_unedge_9 : decode b_M_unedge 9 = .ok (.if_icmp .lt 5, 3) := by decide +kernel
theorem d_M_unedge_12 : decode b_M_unedge 12 = .ok (.iconst (-1), 1) := by decide +kernel
theorem d_M_unedge_13 : decode b_M_unedge 13 = .ok (.ireturn, 1) := by decide +kernel
theorem d_M_unedge_14 : decode b_M_unedge 14 = .ok (.aload_n 0, 1) := by decide +kernel
theorem d_M_unedge_15 : decode b_M_unedge 15 = .ok (.dup, 1) := by decide +kernel
theorem d_M_unedge_16 : decode b_M_unedge 16 = .ok (.getfield 83, 3) := by decide +kernel
theorem d_M_unedge_19 : decode b_M_unedge 19 = .ok (.iconst 1, 1) := by decide +kernel
theorem d_M_unedge_20 : decode b_M_unedge 20 = .ok (.isub, 1) := by decide +kernel
theorem d_M_unedge_21 : decode b_M_unedge 21 = .ok (.putfield 83, 3) := by decide +kernel
theorem d_M_unedge_24 : decode b_M_unedge 24 = .ok (.iload_n 1, 1) := by decide +kernel
theorem d_M_unedge_25 : decode b_M_unedge 25 = .ok (.istore_n 2, 1) := by decide +kernel
theorem d_M_unedge_26 : decode b_M_unedge 26 = .ok (.iload_n 2, 1) := by decide +kernel
theorem d_M_unedge_27 : decode b_M_unedge 27 = .ok (.aload_n 0, 1) := by decide +kernel
theorem d_M_unedge_28 : decode b_M_unedge 28 = .ok (.getfield 83, 3) := by decide +kernel
theorem d_M_unedge_31 : decode b_M_unedge 31 = .ok (.if_icmp .ge 79, 3) := by decide +kernel
theorem d_M_unedge_34 : decode b_M_unedge 34 = .ok (.aload_n 0, 1) := by decide +kernel
theorem d_M_unedge_35 : decode b_M_unedge 35 = .ok (.getfield 20, 3) := by decide +kernel
theorem d_M_unedge_38 : decode b_M_unedge 38 = .ok (.iload_n 2, 1) := by decide +kernel
theorem d_M_unedge_39 : decode b_M_unedge 39 = .ok (.aload_n 0, 1) := by decide +kernel
theorem d_M_unedge_40 : decode b_M_unedge 40 = .ok (.getfield 20, 3) := by decide +kernel
theorem d_M_unedge_43 : decode b_M_unedge 43 = .ok (.iload_n 2, 1) := by decide +kernel
theorem d_M_unedge_44 : decode b_M_unedge 44 = .ok (.iconst 1, 1) := by decide +kernel
theorem d_M_unedge_45 : decode b_M_unedge 45 = .ok (.iadd, 1) := by decide +kernel
theorem d_M_unedge_46 : decode b_M_unedge 46 = .ok (.iaload, 1) := by decide +kernel
theorem d_M_unedge_47 : decode b_M_unedge 47 = .ok (.iastore, 1) := by decide +kernel
theorem d_M_unedge_48 : decode b_M_unedge 48 = .ok (.aload_n 0, 1) := by decide +kernel
theorem d_M_unedge_49 : decode b_M_unedge 49 = .ok (.getfield 23, 3) := by decide +kernel
theorem d_M_unedge_52 : decode b_M_unedge 52 = .ok (.iload_n 2, 1) := by decide +kernel
theorem d_M_unedge_53 : decode b_M_unedge 53 = .ok (.aload_n 0, 1) := by decide +kernel
theorem d_M_unedge_54 : decode b_M_unedge 54 = .ok (.getfield 23, 3) := by decide +kernel
theorem d_M_unedge_57 : decode b_M_unedge 57 = .ok (.iload_n 2, 1) := by decide +kernel
theorem d_M_unedge_58 : decode b_M_unedge 58 = .ok (.iconst 1, 1) := by decide +kernel
theorem d_M_unedge_59 : decode b_M_unedge 59 = .ok (.iadd, 1) := by decide +kernel
theorem d_M_unedge_60 : decode b_M_unedge 60 = .ok (.iaload, 1) := by decide +kernel
theorem d_M_unedge_61 : decode b_M_unedge 61 = .ok (.iastore, 1) := by decide +kernel
theorem d_M_unedge_62 : decode b_M_unedge 62 = .ok (.aload_n 0, 1) := by decide +kernel
theorem d_M_unedge_63 : decode b_M_unedge 63 = .ok (.getfield 26, 3) := by decide +kernel
theorem d_M_unedge_66 : decode b_M_unedge 66 = .ok (.iload_n 2, 1) := by decide +kernel
theorem d_M_unedge_67 : decode b_M_unedge 67 = .ok (.aload_n 0, 1) := by decide +kernel
theorem d_M_unedge_68 : decode b_M_unedge 68 = .ok (.getfield 26, 3) := by decide +kernel
theorem d_M_unedge_71 : decode b_M_unedge 71 = .ok (.iload_n 2, 1) := by decide +kernel
theorem d_M_unedge_72 : decode b_M_unedge 72 = .ok (.iconst 1, 1) := by decide +kernel
theorem d_M_unedge_73 : decode b_M_unedge 73 = .ok (.iadd, 1) := by decide +kernel
theorem d_M_unedge_74 : decode b_M_unedge 74 = .ok (.iaload, 1) := by decide +kernel
theorem d_M_unedge_75 : decode b_M_unedge 75 = .ok (.iastore, 1) := by decide +kernel
theorem d_M_unedge_76 : decode b_M_unedge 76 = .ok (.aload_n 0, 1) := by decide +kernel
theorem d_M_unedge_77 : decode b_M_unedge 77 = .ok (.getfield 29, 3) := by decide +kernel
theorem d_M_unedge_80 : decode b_M_unedge 80 = .ok (.iload_n 2, 1) := by decide +kernel
theorem d_M_unedge_81 : decode b_M_unedge 81 = .ok (.aload_n 0, 1) := by decide +kernel
theorem d_M_unedge_82 : decode b_M_unedge 82 = .ok (.getfield 29, 3) := by decide +kernel
theorem d_M_unedge_85 : decode b_M_unedge 85 = .ok (.iload_n 2, 1) := by decide +kernel
theorem d_M_unedge_86 : decode b_M_unedge 86 = .ok (.iconst 1, 1) := by decide +kernel
theorem d_M_unedge_87 : decode b_M_unedge 87 = .ok (.iadd, 1) := by decide +kernel
theorem d_M_unedge_88 : decode b_M_unedge 88 = .ok (.iaload, 1) := by decide +kernel
theorem d_M_unedge_89 : decode b_M_unedge 89 = .ok (.iastore, 1) := by decide +kernel
theorem d_M_unedge_90 : decode b_M_unedge 90 = .ok (.aload_n 0, 1) := by decide +kernel
theorem d_M_unedge_91 : decode b_M_unedge 91 = .ok (.getfield 32, 3) := by decide +kernel
theorem d_M_unedge_94 : decode b_M_unedge 94 = .ok (.iload_n 2, 1) := by decide +kernel
theorem d_M_unedge_95 : decode b_M_unedge 95 = .ok (.aload_n 0, 1) := by decide +kernel
theorem d_M_unedge_96 : decode b_M_unedge 96 = .ok (.getfield 32, 3) := by decide +kernel
theorem d_M_unedge_99 : decode b_M_unedge 99 = .ok (.iload_n 2, 1) := by decide +kernel
theorem d_M_unedge_100 : decode b_M_unedge 100 = .ok (.iconst 1, 1) := by decide +kernel
theorem d_M_unedge_101 : decode b_M_unedge 101 = .ok (.iadd, 1) := by decide +kernel
theorem d_M_unedge_102 : decode b_M_unedge 102 = .ok (.iaload, 1) := by decide +kernel
theorem d_M_unedge_103 : decode b_M_unedge 103 = .ok (.iastore, 1) := by decide +kernel
theorem d_M_unedge_104 : decode b_M_unedge 104 = .ok (.iinc 2 1, 3) := by decide +kernel
theorem d_M_unedge_107 : decode b_M_unedge 107 = .ok (.goto (-81), 3) := by decide +kernel
theorem d_M_unedge_110 : decode b_M_unedge 110 = .ok (.aload_n 0, 1) := by decide +kernel
theorem d_M_unedge_111 : decode b_M_unedge 111 = .ok (.iconst 0, 1) := by decide +kernel
theorem d_M_unedge_112 : decode b_M_unedge 112 = .ok (.putfield 75, 3) := by decide +kernel
theorem d_M_unedge_115 : decode b_M_unedge 115 = .ok (.aload_n 0, 1) := by decide +kernel
theorem d_M_unedge_116 : decode b_M_unedge 116 = .ok (.getfield 83, 3) := by decide +kernel
theorem d_M_unedge_119 : decode b_M_unedge 119 = .ok (.ireturn, 1) := by decide +kernel
theorem d_M_gcd_0 : decode b_M_gcd 0 = .ok (.lload_n 0, 1) := by decide +kernel
theorem d_M_gcd_1 : decode b_M_gcd 1 = .ok (.lstore 4, 2) := by decide +kernel
theorem d_M_gcd_3 : decode b_M_gcd 3 = .ok (.lload_n 2, 1) := by decide +kernel
theorem d_M_gcd_4 : decode b_M_gcd 4 = .ok (.lstore 6, 2) := by decide +kernel
theorem d_M_gcd_6 : decode b_M_gcd 6 = .ok (.lload 6, 2) := by decide +kernel
theorem d_M_gcd_8 : decode b_M_gcd 8 = .ok (.lconst 0, 1) := by decide +kernel
theorem d_M_gcd_9 : decode b_M_gcd 9 = .ok (.lcmp, 1) := by decide +kernel
theorem d_M_gcd_10 : decode b_M_gcd 10 = .ok (.ifCond .eq 21, 3) := by decide +kernel
theorem d_M_gcd_13 : decode b_M_gcd 13 = .ok (.lload 4, 2) := by decide +kernel
theorem d_M_gcd_15 : decode b_M_gcd 15 = .ok (.lload 6, 2) := by decide +kernel
theorem d_M_gcd_17 : decode b_M_gcd 17 = .ok (.lrem, 1) := by decide +kernel
theorem d_M_gcd_18 : decode b_M_gcd 18 = .ok (.lstore 8, 2) := by decide +kernel
theorem d_M_gcd_20 : decode b_M_gcd 20 = .ok (.lload 6, 2) := by decide +kernel
theorem d_M_gcd_22 : decode b_M_gcd 22 = .ok (.lstore 4, 2) := by decide +kernel
theorem d_M_gcd_24 : decode b_M_gcd 24 = .ok (.lload 8, 2) := by decide +kernel
theorem d_M_gcd_26 : decode b_M_gcd 26 = .ok (.lstore 6, 2) := by decide +kernel
theorem d_M_gcd_28 : decode b_M_gcd 28 = .ok (.goto (-22), 3) := by decide +kernel
theorem d_M_gcd_31 : decode b_M_gcd 31 = .ok (.lload 4, 2) := by decide +kernel
theorem d_M_gcd_33 : decode b_M_gcd 33 = .ok (.lreturn, 1) := by decide +kernel
theorem d_M_setFraction_0 : decode b_M_setFraction 0 = .ok (.lload_n 2, 1) := by decide +kernel
theorem d_M_setFraction_1 : decode b_M_setFraction 1 = .ok (.lload 4, 2) := by decide +kernel
theorem d_M_setFraction_3 : decode b_M_setFraction 3 = .ok (.invokestatic 87, 3) := by decide +kernel
theorem d_M_setFraction_6 : decode b_M_setFraction 6 = .ok (.lstore 6, 2) := by decide +kernel
theorem d_M_setFraction_8 : decode b_M_setFraction 8 = .ok (.aload_n 0, 1) := by decide +kernel
theorem d_M_setFraction_9 : decode b_M_setFraction 9 = .ok (.getfield 35, 3) := by decide +kernel
theorem d_M_setFraction_12 : decode b_M_setFraction 12 = .ok (.iload_n 1, 1) := by decide +kernel
theorem d_M_setFraction_13 : decode b_M_setFraction 13 = .ok (.lload_n 2, 1) := by decide +kernel
theorem d_M_setFraction_14 : decode b_M_setFraction 14 = .ok (.lload 6, 2) := by decide +kernel
theorem d_M_setFraction_16 : decode b_M_setFraction 16 = .ok (.ldiv, 1) := by decide +kernel
theorem d_M_setFraction_17 : decode b_M_setFraction 17 = .ok (.lastore, 1) := by decide +kernel
theorem d_M_setFraction_18 : decode b_M_setFraction 18 = .ok (.aload_n 0, 1) := by decide +kernel
theorem d_M_setFraction_19 : decode b_M_setFraction 19 = .ok (.getfield 39, 3) := by decide +kernel
theorem d_M_setFraction_22 : decode b_M_setFraction 22 = .ok (.iload_n 1, 1) := by decide +kernel
theorem d_M_setFraction_23 : decode b_M_setFraction 23 = .ok (.lload 4, 2) := by decide +kernel
theorem d_M_setFraction_25 : decode b_M_setFraction 25 = .ok (.lload 6, 2) := by decide +kernel
theorem d_M_setFraction_27 : decode b_M_setFraction 27 = .ok (.ldiv, 1) := by decide +kernel
theorem d_M_setFraction_28 : decode b_M_setFraction 28 = .ok (.lastore, 1) := by decide +kernel
theorem d_M_setFraction_29 : decode b_M_setFraction 29 = .ok (.return_, 1) := by decide +kernel
theorem d_M_balance_0 : decode b_M_balance 0 = .ok (.iconst 0, 1) := by decide +kernel
theorem d_M_balance_1 : decode b_M_balance 1 = .ok (.istore_n 2, 1) := by decide +kernel
theorem d_M_balance_2 : decode b_M_balance 2 = .ok (.iload_n 2, 1) := by decide +kernel
theorem d_M_balance_3 : decode b_M_balance 3 = .ok (.bipush 8, 2) := by decide +kernel
theorem d_M_balance_5 : decode b_M_balance 5 = .ok (.if_icmp .ge 16, 3) := by decide +kernel
theorem d_M_balance_8 : decode b_M_balance 8 = .ok (.aload_n 0, 1) := by decide +kernel
theorem d_M_balance_9 : decode b_M_balance 9 = .ok (.getfield 42, 3) := by decide +kernel
theorem d_M_balance_12 : decode b_M_balance 12 = .ok (.iload_n 2, 1) := by decide +kernel
theorem d_M_balance_13 : decode b_M_balance 13 = .ok (.iconst (-1), 1) := by decide +kernel
theorem d_M_balance_14 : decode b_M_balance 14 = .ok (.iastore, 1) := by decide +kernel
theorem d_M_balance_15 : decode b_M_balance 15 = .ok (.iinc 2 1, 3) := by decide +kernel
theorem d_M_balance_18 : decode b_M_balance 18 = .ok (.goto (-16), 3) := by decide +kernel
theorem d_M_balance_21 : decode b_M_balance 21 = .ok (.iconst 0, 1) := by decide +kernel
theorem d_M_balance_22 : decode b_M_balance 22 = .ok (.istore_n 2, 1) := by decide +kernel
theorem d_M_balance_23 : decode b_M_balance 23 = .ok (.iload_n 2, 1) := by decide +kernel
theorem d_M_balance_24 : decode b_M_balance 24 = .ok (.bipush 8, 2) := by decide +kernel
theorem d_M_balance_26 : decode b_M_balance 26 = .ok (.if_icmp .ge 232, 3) := by decide +kernel
theorem d_M_balance_29 : decode b_M_balance 29 = .ok (.aload_n 0, 1) := by decide +kernel
theorem d_M_balance_30 : decode b_M_balance 30 = .ok (.getfield 7, 3) := by decide +kernel
theorem d_M_balance_33 : decode b_M_balance 33 = .ok (.iload_n 2, 1) := by decide +kernel
theorem d_M_balance_34 : decode b_M_balance 34 = .ok (.baload, 1) := by decide +kernel
theorem d_M_balance_35 : decode b_M_balance 35 = .ok (.ifCond .eq 217, 3) := by decide +kernel
theorem d_M_balance_38 : decode b_M_balance 38 = .ok (.aload_n 0, 1) := by decide +kernel
theorem d_M_balance_39 : decode b_M_balance 39 = .ok (.getfield 42, 3) := by decide +kernel
theorem d_M_balance_42 : decode b_M_balance 42 = .ok (.iload_n 2, 1) := by decide +kernel
theorem d_M_balance_43 : decode b_M_balance 43 = .ok (.iaload, 1) := by decide +kernel
theorem d_M_balance_44 : decode b_M_balance 44 = .ok (.ifCond .lt 6, 3) := by decide +kernel
theorem d_M_balance_47 : decode b_M_balance 47 = .ok (.goto 205, 3) := by decide +kernel
theorem d_M_balance_50 : decode b_M_balance 50 = .ok (.aload_n 0, 1) := by decide +kernel
theorem d_M_balance_51 : decode b_M_balance 51 = .ok (.getfield 42, 3) := by decide +kernel
theorem d_M_balance_54 : decode b_M_balance 54 = .ok (.iload_n 2, 1) := by decide +kernel
theorem d_M_balance_55 : decode b_M_balance 55 = .ok (.iload_n 2, 1) := by decide +kernel
theorem d_M_balance_56 : decode b_M_balance 56 = .ok (.iastore, 1) := by decide +kernel
theorem d_M_balance_57 : decode b_M_balance 57 = .ok (.aload_n 0, 1) := by decide +kernel
theorem d_M_balance_58 : decode b_M_balance 58 = .ok (.getfield 35, 3) := by decide +kernel
theorem d_M_balance_61 : decode b_M_balance 61 = .ok (.iload_n 2, 1) := by decide +kernel
theorem d_M_balance_62 : decode b_M_balance 62 = .ok (.aload_n 0, 1) := by decide +kernel
theorem d_M_balance_63 : decode b_M_balance 63 = .ok (.getfield 39, 3) := by decide +kernel
theorem d_M_balance_66 : decode b_M_balance 66 = .ok (.iload_n 2, 1) := by decide +kernel
theorem d_M_balance_67 : decode b_M_balance 67 = .ok (.lconst 1, 1) := by decide +kernel
theorem d_M_balance_68 : decode b_M_balance 68 = .ok (.dup2_x2, 1) := by decide +kernel
theorem d_M_balance_69 : decode b_M_balance 69 = .ok (.lastore, 1) := by decide +kernel
theorem d_M_balance_70 : decode b_M_balance 70 = .ok (.lastore, 1) := by decide +kernel
theorem d_M_balance_71 : decode b_M_balance 71 = .ok (.iconst 0, 1) := by decide +kernel
theorem d_M_balance_72 : decode b_M_balance 72 = .ok (.istore_n 3, 1) := by decide +kernel
theorem d_M_balance_73 : decode b_M_balance 73 = .ok (.iload_n 3, 1) := by decide +kernel
theorem d_M_balance_74 : decode b_M_balance 74 = .ok (.bipush 8, 2) := by decide +kernel
theorem d_M_balance_76 : decode b_M_balance 76 = .ok (.if_icmp .ge 176, 3) := by decide +kernel
theorem d_M_balance_79 : decode b_M_balance 79 = .ok (.iconst 0, 1) := by decide +kernel
theorem d_M_balance_80 : decode b_M_balance 80 = .ok (.istore 4, 2) := by decide +kernel
theorem d_M_balance_82 : decode b_M_balance 82 = .ok (.iload 4, 2) := by decide +kernel
theorem d_M_balance_84 : decode b_M_balance 84 = .ok (.iload_n 1, 1) := by decide +kernel
theorem d_M_balance_85 : decode b_M_balance 85 = .ok (.if_icmp .ge 161, 3) := by decide +kernel
theorem d_M_balance_88 : decode b_M_balance 88 = .ok (.aload_n 0, 1) := by decide +kernel
theorem d_M_balance_89 : decode b_M_balance 89 = .ok (.getfield 20, 3) := by decide +kernel
theorem d_M_balance_92 : decode b_M_balance 92 = .ok (.iload 4, 2) := by decide +kernel
theorem d_M_balance_94 : decode b_M_balance 94 = .ok (.iaload, 1) := by decide +kernel
theorem d_M_balance_95 : decode b_M_balance 95 = .ok (.istore 5, 2) := by decide +kernel
theorem d_M_balance_97 : decode b_M_balance 97 = .ok (.aload_n 0, 1) := by decide +kernel
theorem d_M_balance_98 : decode b_M_balance 98 = .ok (.getfield 23, 3) := by decide +kernel
theorem d_M_balance_101 : decode b_M_balance 101 = .ok (.iload 4, 2) := by decide +kernel
theorem d_M_balance_103 : decode b_M_balance 103 = .ok (.iaload, 1) := by decide +kernel
theorem d_M_balance_104 : decode b_M_balance 104 = .ok (.istore 6, 2) := by decide +kernel
theorem d_M_balance_106 : decode b_M_balance 106 = .ok (.aload_n 0, 1) := by decide +kernel
theorem d_M_balance_107 : decode b_M_balance 107 = .ok (.getfield 42, 3) := by decide +kernel
theorem d_M_balance_110 : decode b_M_balance 110 = .ok (.iload 5, 2) := by decide +kernel
theorem d_M_balance_112 : decode b_M_balance 112 = .ok (.iaload, 1) := by decide +kernel
theorem d_M_balance_113 : decode b_M_balance 113 = .ok (.iload_n 2, 1) := by decide +kernel
theorem d_M_balance_114 : decode b_M_balance 114 = .ok (.if_icmp .ne 59, 3) := by decide +kernel
theorem d_M_balance_117 : decode b_M_balance 117 = .ok (.aload_n 0, 1) := by decide +kernel
theorem d_M_balance_118 : decode b_M_balance 118 = .ok (.getfield 42, 3) := by decide +kernel
theorem d_M_balance_121 : decode b_M_balance 121 = .ok (.iload 6, 2) := by decide +kernel
theorem d_M_balance_123 : decode b_M_balance 123 = .ok (.iaload, 1) := by decide +kernel
theorem d_M_balance_124 : decode b_M_balance 124 = .ok (.ifCond .ge 49, 3) := by decide +kernel
theorem d_M_balance_127 : decode b_M_balance 127 = .ok (.aload_n 0, 1) := by decide +kernel
theorem d_M_balance_128 : decode b_M_balance 128 = .ok (.getfield 42, 3) := by decide +kernel
theorem d_M_balance_131 : decode b_M_balance 131 = .ok (.iload 6, 2) := by decide +kernel
theorem d_M_balance_133 : decode b_M_balance 133 = .ok (.iload_n 2, 1) := by decide +kernel
theorem d_M_balance_134 : decode b_M_balance 134 = .ok (.iastore, 1) := by decide +kernel
theorem d_M_balance_135 : decode b_M_balance 135 = .ok (.aload_n 0, 1) := by decide +kernel
theorem d_M_balance_136 : decode b_M_balance 136 = .ok (.iload 6, 2) := by decide +kernel
theorem d_M_balance_138 : decode b_M_balance 138 = .ok (.aload_n 0, 1) := by decide +kernel
theorem d_M_balance_139 : decode b_M_balance 139 = .ok (.getfield 35, 3) := by decide +kernel
theorem d_M_balance_142 : decode b_M_balance 142 = .ok (.iload 5, 2) := by decide +kernel
theorem d_M_balance_144 : decode b_M_balance 144 = .ok (.laload, 1) := by decide +kernel
theorem d_M_balance_145 : decode b_M_balance 145 = .ok (.aload_n 0, 1) := by decide +kernel
theorem d_M_balance_146 : decode b_M_balance 146 = .ok (.getfield 26, 3) := by decide +kernel
theorem d_M_balance_149 : decode b_M_balance 149 = .ok (.iload 4, 2) := by decide +kernel
theorem d_M_balance_151 : decode b_M_balance 151 = .ok (.iaload, 1) := by decide +kernel
theorem d_M_balance_152 : decode b_M_balance 152 = .ok (.i2l, 1) := by decide +kernel
theorem d_M_balance_153 : decode b_M_balance 153 = .ok (.lmul, 1) := by decide +kernel
theorem d_M_balance_154 : decode b_M_balance 154 = .ok (.aload_n 0, 1) := by decide +kernel
theorem d_M_balance_155 : decode b_M_balance 155 = .ok (.getfield 39, 3) := by decide +kernel
theorem d_M_balance_158 : decode b_M_balance 158 = .ok (.iload 5, 2) := by decide +kernel
theorem d_M_balance_160 : decode b_M_balance 160 = .ok (.laload, 1) := by decide +kernel
theorem d_M_balance_161 : decode b_M_balance 161 = .ok (.aload_n 0, 1) := by decide +kernel
theorem d_M_balance_162 : decode b_M_balance 162 = .ok (.getfield 29, 3) := by decide +kernel
theorem d_M_balance_165 : decode b_M_balance 165 = .ok (.iload 4, 2) := by decide +kernel
theorem d_M_balance_167 : decode b_M_balance 167 = .ok (.iaload, 1) := by decide +kernel
theorem d_M_balance_168 : decode b_M_balance 168 = .ok (.i2l, 1) := by decide +kernel
theorem d_M_balance_169 : decode b_M_balance 169 = .ok (.lmul, 1) := by decide +kernel
theorem d_M_balance_170 : decode b_M_balance 170 = .ok (.invokevirtual 91, 3) := by decide +kernel
theorem d_M_balance_173 : decode b_M_balance 173 = .ok (.aload_n 0, 1) := by decide +kernel
theorem d_M_balance_174 : decode b_M_balance 174 = .ok (.getfield 42, 3) := by decide +kernel
theorem d_M_balance_177 : decode b_M_balance 177 = .ok (.iload 6, 2) := by decide +kernel
theorem d_M_balance_179 : decode b_M_balance 179 = .ok (.iaload, 1) := by decide +kernel
theorem d_M_balance_180 : decode b_M_balance 180 = .ok (.iload_n 2, 1) := by decide +kernel
theorem d_M_balance_181 : decode b_M_balance 181 = .ok (.if_icmp .ne 59, 3) := by decide +kernel
theorem d_M_balance_184 : decode b_M_balance 184 = .ok (.aload_n 0, 1) := by decide +kernel
theorem d_M_balance_185 : decode b_M_balance 185 = .ok (.getfield 42, 3) := by decide +kernel
theorem d_M_balance_188 : decode b_M_balance 188 = .ok (.iload 5, 2) := by decide +kernel
theorem d_M_balance_190 : decode b_M_balance 190 = .ok (.iaload, 1) := by decide +kernel
theorem d_M_balance_191 : decode b_M_balance 191 = .ok (.ifCond .ge 49, 3) := by decide +kernel
theorem d_M_balance_194 : decode b_M_balance 194 = .ok (.aload_n 0, 1) := by decide +kernel
theorem d_M_balance_195 : decode b_M_balance 195 = .ok (.getfield 42, 3) := by decide +kernel
theorem d_M_balance_198 : decode b_M_balance 198 = .ok (.iload 5, 2) := by decide +kernel
theorem d_M_balance_200 : decode b_M_balance 200 = .ok (.iload_n 2, 1) := by decide +kernel
theorem d_M_balance_201 : decode b_M_balance 201 = .ok (.iastore, 1) := by decide +kernel
theorem d_M_balance_202 : decode b_M_balance 202 = .ok (.aload_n 0, 1) := by decide +kernel
theorem d_M_balance_203 : decode b_M_balance 203 = .ok (.iload 5, 2) := by decide +kernel
theorem d_M_balance_205 : decode b_M_balance 205 = .ok (.aload_n 0, 1) := by decide +kernel
theorem d_M_balance_206 : decode b_M_balance 206 = .ok (.getfield 35, 3) := by decide +kernel
theorem d_M_balance_209 : decode b_M_balance 209 = .ok (.iload 6, 2) := by decide +kernel
theorem d_M_balance_211 : decode b_M_balance 211 = .ok (.laload, 1) := by decide +kernel
theorem d_M_balance_212 : decode b_M_balance 212 = .ok (.aload_n 0, 1) := by decide +kernel
theorem d_M_balance_213 : decode b_M_balance 213 = .ok (.getfield 29, 3) := by decide +kernel
theorem d_M_balance_216 : decode b_M_balance 216 = .ok (.iload 4, 2) := by decide +kernel
theorem d_M_balance_218 : decode b_M_balance 218 = .ok (.iaload, 1) := by decide +kernel
theorem d_M_balance_219 : decode b_M_balance 219 = .ok (.i2l, 1) := by decide +kernel
theorem d_M_balance_220 : decode b_M_balance 220 = .ok (.lmul, 1) := by decide +kernel
theorem d_M_balance_221 : decode b_M_balance 221 = .ok (.aload_n 0, 1) := by decide +kernel
theorem d_M_balance_222 : decode b_M_balance 222 = .ok (.getfield 39, 3) := by decide +kernel
theorem d_M_balance_225 : decode b_M_balance 225 = .ok (.iload 6, 2) := by decide +kernel
theorem d_M_balance_227 : decode b_M_balance 227 = .ok (.laload, 1) := by decide +kernel
theorem d_M_balance_228 : decode b_M_balance 228 = .ok (.aload_n 0, 1) := by decide +kernel
theorem d_M_balance_229 : decode b_M_balance 229 = .ok (.getfield 26, 3) := by decide +kernel
theorem d_M_balance_232 : decode b_M_balance 232 = .ok (.iload 4, 2) := by decide +kernel
theorem d_M_balance_234 : decode b_M_balance 234 = .ok (.iaload, 1) := by decide +kernel
theorem d_M_balance_235 : decode b_M_balance 235 = .ok (.i2l, 1) := by decide +kernel
theorem d_M_balance_236 : decode b_M_balance 236 = .ok (.lmul, 1) := by decide +kernel
theorem d_M_balance_237 : decode b_M_balance 237 = .ok (.invokevirtual 91, 3) := by decide +kernel
theorem d_M_balance_240 : decode b_M_balance 240 = .ok (.iinc 4 1, 3) := by decide +kernel
theorem d_M_balance_243 : decode b_M_balance 243 = .ok (.goto (-161), 3) := by decide +kernel
theorem d_M_balance_246 : decode b_M_balance 246 = .ok (.iinc 3 1, 3) := by decide +kernel
theorem d_M_balance_249 : decode b_M_balance 249 = .ok (.goto (-176), 3) := by decide +kernel
theorem d_M_balance_252 : decode b_M_balance 252 = .ok (.iinc 2 1, 3) := by decide +kernel
theorem d_M_balance_255 : decode b_M_balance 255 = .ok (.goto (-232), 3) := by decide +kernel
theorem d_M_balance_258 : decode b_M_balance 258 = .ok (.iconst 0, 1) := by decide +kernel
theorem d_M_balance_259 : decode b_M_balance 259 = .ok (.istore_n 2, 1) := by decide +kernel
theorem d_M_balance_260 : decode b_M_balance 260 = .ok (.iload_n 2, 1) := by decide +kernel
theorem d_M_balance_261 : decode b_M_balance 261 = .ok (.iload_n 1, 1) := by decide +kernel
theorem d_M_balance_262 : decode b_M_balance 262 = .ok (.if_icmp .ge 77, 3) := by decide +kernel
theorem d_M_balance_265 : decode b_M_balance 265 = .ok (.aload_n 0, 1) := by decide +kernel
theorem d_M_balance_266 : decode b_M_balance 266 = .ok (.getfield 35, 3) := by decide +kernel
theorem d_M_balance_269 : decode b_M_balance 269 = .ok (.aload_n 0, 1) := by decide +kernel
theorem d_M_balance_270 : decode b_M_balance 270 = .ok (.getfield 20, 3) := by decide +kernel
theorem d_M_balance_273 : decode b_M_balance 273 = .ok (.iload_n 2, 1) := by decide +kernel
theorem d_M_balance_274 : decode b_M_balance 274 = .ok (.iaload, 1) := by decide +kernel
theorem d_M_balance_275 : decode b_M_balance 275 = .ok (.laload, 1) := by decide +kernel
theorem d_M_balance_276 : decode b_M_balance 276 = .ok (.aload_n 0, 1) := by decide +kernel
theorem d_M_balance_277 : decode b_M_balance 277 = .ok (.getfield 26, 3) := by decide +kernel
theorem d_M_balance_280 : decode b_M_balance 280 = .ok (.iload_n 2, 1) := by decide +kernel
theorem d_M_balance_281 : decode b_M_balance 281 = .ok (.iaload, 1) := by decide +kernel
theorem d_M_balance_282 : decode b_M_balance 282 = .ok (.i2l, 1) := by decide +kernel
theorem d_M_balance_283 : decode b_M_balance 283 = .ok (.lmul, 1) := by decide +kernel
theorem d_M_balance_284 : decode b_M_balance 284 = .ok (.aload_n 0, 1) := by decide +kernel
theorem d_M_balance_285 : decode b_M_balance 285 = .ok (.getfield 39, 3) := by decide +kernel
theorem d_M_balance_288 : decode b_M_balance 288 = .ok (.aload_n 0, 1) := by decide +kernel
theorem d_M_balance_289 : decode b_M_balance 289 = .ok (.getfield 23, 3) := by decide +kernel
theorem d_M_balance_292 : decode b_M_balance 292 = .ok (.iload_n 2, 1) := by decide +kernel
theorem d_M_balance_293 : decode b_M_balance 293 = .ok (.iaload, 1) := by decide +kernel
theorem d_M_balance_294 : decode b_M_balance 294 = .ok (.laload, 1) := by decide +kernel
theorem d_M_balance_295 : decode b_M_balance 295 = .ok (.lmul, 1) := by decide +kernel
theorem d_M_balance_296 : decode b_M_balance 296 = .ok (.aload_n 0, 1) := by decide +kernel
theorem d_M_balance_297 : decode b_M_balance 297 = .ok (.getfield 35, 3) := by decide +kernel
theorem d_M_balance_300 : decode b_M_balance 300 = .ok (.aload_n 0, 1) := by decide +kernel
theorem d_M_balance_301 : decode b_M_balance 301 = .ok (.getfield 23, 3) := by decide +kernel
theorem d_M_balance_304 : decode b_M_balance 304 = .ok (.iload_n 2, 1) := by decide +kernel
theorem d_M_balance_305 : decode b_M_balance 305 = .ok (.iaload, 1) := by decide +kernel
theorem d_M_balance_306 : decode b_M_balance 306 = .ok (.laload, 1) := by decide +kernel
theorem d_M_balance_307 : decode b_M_balance 307 = .ok (.aload_n 0, 1) := by decide +kernel
theorem d_M_balance_308 : decode b_M_balance 308 = .ok (.getfield 29, 3) := by decide +kernel
theorem d_M_balance_311 : decode b_M_balance 311 = .ok (.iload_n 2, 1) := by decide +kernel
theorem d_M_balance_312 : decode b_M_balance 312 = .ok (.iaload, 1) := by decide +kernel
theorem d_M_balance_313 : decode b_M_balance 313 = .ok (.i2l, 1) := by decide +kernel
theorem d_M_balance_314 : decode b_M_balance 314 = .ok (.lmul, 1) := by decide +kernel
theorem d_M_balance_315 : decode b_M_balance 315 = .ok (.aload_n 0, 1) := by decide +kernel
theorem d_M_balance_316 : decode b_M_balance 316 = .ok (.getfield 39, 3) := by decide +kernel
theorem d_M_balance_319 : decode b_M_balance 319 = .ok (.aload_n 0, 1) := by decide +kernel
theorem d_M_balance_320 : decode b_M_balance 320 = .ok (.getfield 20, 3) := by decide +kernel
theorem d_M_balance_323 : decode b_M_balance 323 = .ok (.iload_n 2, 1) := by decide +kernel
theorem d_M_balance_324 : decode b_M_balance 324 = .ok (.iaload, 1) := by decide +kernel
theorem d_M_balance_325 : decode b_M_balance 325 = .ok (.laload, 1) := by decide +kernel
theorem d_M_balance_326 : decode b_M_balance 326 = .ok (.lmul, 1) := by decide +kernel
theorem d_M_balance_327 : decode b_M_balance 327 = .ok (.lcmp, 1) := by decide +kernel
theorem d_M_balance_328 : decode b_M_balance 328 = .ok (.ifCond .eq 5, 3) := by decide +kernel
theorem d_M_balance_331 : decode b_M_balance 331 = .ok (.iconst 0, 1) := by decide +kernel
theorem d_M_balance_332 : decode b_M_balance 332 = .ok (.ireturn, 1) := by decide +kernel
theorem d_M_balance_333 : decode b_M_balance 333 = .ok (.iinc 2 1, 3) := by decide +kernel
theorem d_M_balance_336 : decode b_M_balance 336 = .ok (.goto (-76), 3) := by decide +kernel
theorem d_M_balance_339 : decode b_M_balance 339 = .ok (.iconst 1, 1) := by decide +kernel
theorem d_M_balance_340 : decode b_M_balance 340 = .ok (.ireturn, 1) := by decide +kernel
theorem d_M_whole_0 : decode b_M_whole 0 = .ok (.iconst 0, 1) := by decide +kernel
theorem d_M_whole_1 : decode b_M_whole 1 = .ok (.istore_n 3, 1) := by decide +kernel
theorem d_M_whole_2 : decode b_M_whole 2 = .ok (.iload_n 3, 1) := by decide +kernel
theorem d_M_whole_3 : decode b_M_whole 3 = .ok (.bipush 8, 2) := by decide +kernel
theorem d_M_whole_5 : decode b_M_whole 5 = .ok (.if_icmp .ge 87, 3) := by decide +kernel
theorem d_M_whole_8 : decode b_M_whole 8 = .ok (.aload_n 0, 1) := by decide +kernel
theorem d_M_whole_9 : decode b_M_whole 9 = .ok (.getfield 42, 3) := by decide +kernel
theorem d_M_whole_12 : decode b_M_whole 12 = .ok (.iload_n 3, 1) := by decide +kernel
theorem d_M_whole_13 : decode b_M_whole 13 = .ok (.iaload, 1) := by decide +kernel
theorem d_M_whole_14 : decode b_M_whole 14 = .ok (.iload_n 1, 1) := by decide +kernel
theorem d_M_whole_15 : decode b_M_whole 15 = .ok (.if_icmp .eq 6, 3) := by decide +kernel
theorem d_M_whole_18 : decode b_M_whole 18 = .ok (.goto 68, 3) := by decide +kernel
theorem d_M_whole_21 : decode b_M_whole 21 = .ok (.iload_n 2, 1) := by decide +kernel
theorem d_M_whole_22 : decode b_M_whole 22 = .ok (.i2l, 1) := by decide +kernel
theorem d_M_whole_23 : decode b_M_whole 23 = .ok (.aload_n 0, 1) := by decide +kernel
theorem d_M_whole_24 : decode b_M_whole 24 = .ok (.getfield 35, 3) := by decide +kernel
theorem d_M_whole_27 : decode b_M_whole 27 = .ok (.iload_n 3, 1) := by decide +kernel
theorem d_M_whole_28 : decode b_M_whole 28 = .ok (.laload, 1) := by decide +kernel
theorem d_M_whole_29 : decode b_M_whole 29 = .ok (.lmul, 1) := by decide +kernel
theorem d_M_whole_30 : decode b_M_whole 30 = .ok (.aload_n 0, 1) := by decide +kernel
theorem d_M_whole_31 : decode b_M_whole 31 = .ok (.getfield 39, 3) := by decide +kernel
theorem d_M_whole_34 : decode b_M_whole 34 = .ok (.iload_n 3, 1) := by decide +kernel
theorem d_M_whole_35 : decode b_M_whole 35 = .ok (.laload, 1) := by decide +kernel
theorem d_M_whole_36 : decode b_M_whole 36 = .ok (.lrem, 1) := by decide +kernel
theorem d_M_whole_37 : decode b_M_whole 37 = .ok (.lconst 0, 1) := by decide +kernel
theorem d_M_whole_38 : decode b_M_whole 38 = .ok (.lcmp, 1) := by decide +kernel
theorem d_M_whole_39 : decode b_M_whole 39 = .ok (.ifCond .eq 5, 3) := by decide +kernel
theorem d_M_whole_42 : decode b_M_whole 42 = .ok (.iconst 0, 1) := by decide +kernel
theorem d_M_whole_43 : decode b_M_whole 43 = .ok (.ireturn, 1) := by decide +kernel
theorem d_M_whole_44 : decode b_M_whole 44 = .ok (.iload_n 2, 1) := by decide +kernel
theorem d_M_whole_45 : decode b_M_whole 45 = .ok (.i2l, 1) := by decide +kernel
theorem d_M_whole_46 : decode b_M_whole 46 = .ok (.aload_n 0, 1) := by decide +kernel
theorem d_M_whole_47 : decode b_M_whole 47 = .ok (.getfield 35, 3) := by decide +kernel
theorem d_M_whole_50 : decode b_M_whole 50 = .ok (.iload_n 3, 1) := by decide +kernel
theorem d_M_whole_51 : decode b_M_whole 51 = .ok (.laload, 1) := by decide +kernel
theorem d_M_whole_52 : decode b_M_whole 52 = .ok (.lmul, 1) := by decide +kernel
theorem d_M_whole_53 : decode b_M_whole 53 = .ok (.aload_n 0, 1) := by decide +kernel
theorem d_M_whole_54 : decode b_M_whole 54 = .ok (.getfield 39, 3) := by decide +kernel
theorem d_M_whole_57 : decode b_M_whole 57 = .ok (.iload_n 3, 1) := by decide +kernel
theorem d_M_whole_58 : decode b_M_whole 58 = .ok (.laload, 1) := by decide +kernel
theorem d_M_whole_59 : decode b_M_whole 59 = .ok (.ldiv, 1) := by decide +kernel
theorem d_M_whole_60 : decode b_M_whole 60 = .ok (.lstore 4, 2) := by decide +kernel
theorem d_M_whole_62 : decode b_M_whole 62 = .ok (.aload_n 0, 1) := by decide +kernel
theorem d_M_whole_63 : decode b_M_whole 63 = .ok (.getfield 45, 3) := by decide +kernel
theorem d_M_whole_66 : decode b_M_whole 66 = .ok (.iload_n 3, 1) := by decide +kernel
theorem d_M_whole_67 : decode b_M_whole 67 = .ok (.lload 4, 2) := by decide +kernel
theorem d_M_whole_69 : decode b_M_whole 69 = .ok (.ldc2_w 95, 3) := by decide +kernel
theorem d_M_whole_72 : decode b_M_whole 72 = .ok (.lcmp, 1) := by decide +kernel
theorem d_M_whole_73 : decode b_M_whole 73 = .ok (.ifCond .le 9, 3) := by decide +kernel
theorem d_M_whole_76 : decode b_M_whole 76 = .ok (.sipush 1000, 3) := by decide +kernel
theorem d_M_whole_79 : decode b_M_whole 79 = .ok (.goto 6, 3) := by decide +kernel
theorem d_M_whole_82 : decode b_M_whole 82 = .ok (.lload 4, 2) := by decide +kernel
theorem d_M_whole_84 : decode b_M_whole 84 = .ok (.l2i, 1) := by decide +kernel
theorem d_M_whole_85 : decode b_M_whole 85 = .ok (.iastore, 1) := by decide +kernel
theorem d_M_whole_86 : decode b_M_whole 86 = .ok (.iinc 3 1, 3) := by decide +kernel
theorem d_M_whole_89 : decode b_M_whole 89 = .ok (.goto (-87), 3) := by decide +kernel
theorem d_M_whole_92 : decode b_M_whole 92 = .ok (.iconst 1, 1) := by decide +kernel
theorem d_M_whole_93 : decode b_M_whole 93 = .ok (.ireturn, 1) := by decide +kernel
theorem d_M_repeat_0 : decode b_M_repeat 0 = .ok (.iconst 0, 1) := by decide +kernel
theorem d_M_repeat_1 : decode b_M_repeat 1 = .ok (.istore_n 1, 1) := by decide +kernel
theorem d_M_repeat_2 : decode b_M_repeat 2 = .ok (.iconst 0, 1) := by decide +kernel
theorem d_M_repeat_3 : decode b_M_repeat 3 = .ok (.istore_n 2, 1) := by decide +kernel
theorem d_M_repeat_4 : decode b_M_repeat 4 = .ok (.iload_n 2, 1) := by decide +kernel
theorem d_M_repeat_5 : decode b_M_repeat 5 = .ok (.bipush 8, 2) := by decide +kernel
theorem d_M_repeat_7 : decode b_M_repeat 7 = .ok (.if_icmp .ge 54, 3) := by decide +kernel
theorem d_M_repeat_10 : decode b_M_repeat 10 = .ok (.aload_n 0, 1) := by decide +kernel
theorem d_M_repeat_11 : decode b_M_repeat 11 = .ok (.getfield 42, 3) := by decide +kernel
theorem d_M_repeat_14 : decode b_M_repeat 14 = .ok (.iload_n 2, 1) := by decide +kernel
theorem d_M_repeat_15 : decode b_M_repeat 15 = .ok (.iaload, 1) := by decide +kernel
theorem d_M_repeat_16 : decode b_M_repeat 16 = .ok (.iload_n 2, 1) := by decide +kernel
theorem d_M_repeat_17 : decode b_M_repeat 17 = .ok (.if_icmp .eq 6, 3) := by decide +kernel
theorem d_M_repeat_20 : decode b_M_repeat 20 = .ok (.goto 35, 3) := by decide +kernel
theorem d_M_repeat_23 : decode b_M_repeat 23 = .ok (.iconst 1, 1) := by decide +kernel
theorem d_M_repeat_24 : decode b_M_repeat 24 = .ok (.istore_n 3, 1) := by decide +kernel
theorem d_M_repeat_25 : decode b_M_repeat 25 = .ok (.iload_n 3, 1) := by decide +kernel
theorem d_M_repeat_26 : decode b_M_repeat 26 = .ok (.bipush 65, 2) := by decide +kernel
theorem d_M_repeat_28 : decode b_M_repeat 28 = .ok (.if_icmp .ge 18, 3) := by decide +kernel
theorem d_M_repeat_31 : decode b_M_repeat 31 = .ok (.aload_n 0, 1) := by decide +kernel
theorem d_M_repeat_32 : decode b_M_repeat 32 = .ok (.iload_n 2, 1) := by decide +kernel
theorem d_M_repeat_33 : decode b_M_repeat 33 = .ok (.iload_n 3, 1) := by decide +kernel
theorem d_M_repeat_34 : decode b_M_repeat 34 = .ok (.invokevirtual 97, 3) := by decide +kernel
theorem d_M_repeat_37 : decode b_M_repeat 37 = .ok (.ifCond .ne 9, 3) := by decide +kernel
theorem d_M_repeat_40 : decode b_M_repeat 40 = .ok (.iinc 3 1, 3) := by decide +kernel
theorem d_M_repeat_43 : decode b_M_repeat 43 = .ok (.goto (-18), 3) := by decide +kernel
theorem d_M_repeat_46 : decode b_M_repeat 46 = .ok (.iload_n 3, 1) := by decide +kernel
theorem d_M_repeat_47 : decode b_M_repeat 47 = .ok (.bipush 65, 2) := by decide +kernel
theorem d_M_repeat_49 : decode b_M_repeat 49 = .ok (.if_icmp .ne 6, 3) := by decide +kernel
theorem d_M_repeat_52 : decode b_M_repeat 52 = .ok (.bipush 65, 2) := by decide +kernel
theorem d_M_repeat_54 : decode b_M_repeat 54 = .ok (.ireturn, 1) := by decide +kernel
theorem d_M_repeat_55 : decode b_M_repeat 55 = .ok (.iinc 2 1, 3) := by decide +kernel
theorem d_M_repeat_58 : decode b_M_repeat 58 = .ok (.goto (-54), 3) := by decide +kernel
theorem d_M_repeat_61 : decode b_M_repeat 61 = .ok (.iconst 0, 1) := by decide +kernel
theorem d_M_repeat_62 : decode b_M_repeat 62 = .ok (.istore_n 2, 1) := by decide +kernel
theorem d_M_repeat_63 : decode b_M_repeat 63 = .ok (.iload_n 2, 1) := by decide +kernel
theorem d_M_repeat_64 : decode b_M_repeat 64 = .ok (.bipush 8, 2) := by decide +kernel
theorem d_M_repeat_66 : decode b_M_repeat 66 = .ok (.if_icmp .ge 27, 3) := by decide +kernel
theorem d_M_repeat_69 : decode b_M_repeat 69 = .ok (.aload_n 0, 1) := by decide +kernel
theorem d_M_repeat_70 : decode b_M_repeat 70 = .ok (.getfield 7, 3) := by decide +kernel
theorem d_M_repeat_73 : decode b_M_repeat 73 = .ok (.iload_n 2, 1) := by decide +kernel
theorem d_M_repeat_74 : decode b_M_repeat 74 = .ok (.baload, 1) := by decide +kernel
theorem d_M_repeat_75 : decode b_M_repeat 75 = .ok (.ifCond .eq 12, 3) := by decide +kernel
theorem d_M_repeat_78 : decode b_M_repeat 78 = .ok (.iload_n 1, 1) := by decide +kernel
theorem d_M_repeat_79 : decode b_M_repeat 79 = .ok (.aload_n 0, 1) := by decide +kernel
theorem d_M_repeat_80 : decode b_M_repeat 80 = .ok (.getfield 45, 3) := by decide +kernel
theorem d_M_repeat_83 : decode b_M_repeat 83 = .ok (.iload_n 2, 1) := by decide +kernel
theorem d_M_repeat_84 : decode b_M_repeat 84 = .ok (.iaload, 1) := by decide +kernel
theorem d_M_repeat_85 : decode b_M_repeat 85 = .ok (.iadd, 1) := by decide +kernel
theorem d_M_repeat_86 : decode b_M_repeat 86 = .ok (.istore_n 1, 1) := by decide +kernel
theorem d_M_repeat_87 : decode b_M_repeat 87 = .ok (.iinc 2 1, 3) := by decide +kernel
theorem d_M_repeat_90 : decode b_M_repeat 90 = .ok (.goto (-27), 3) := by decide +kernel
theorem d_M_repeat_93 : decode b_M_repeat 93 = .ok (.iload_n 1, 1) := by decide +kernel
theorem d_M_repeat_94 : decode b_M_repeat 94 = .ok (.ireturn, 1) := by decide +kernel
theorem d_M_ready_0 : decode b_M_ready 0 = .ok (.aload_n 0, 1) := by decide +kernel
theorem d_M_ready_1 : decode b_M_ready 1 = .ok (.getfield 7, 3) := by decide +kernel
theorem d_M_ready_4 : decode b_M_ready 4 = .ok (.iload_n 1, 1) := by decide +kernel
theorem d_M_ready_5 : decode b_M_ready 5 = .ok (.baload, 1) := by decide +kernel
theorem d_M_ready_6 : decode b_M_ready 6 = .ok (.ifCond .eq 18, 3) := by decide +kernel
theorem d_M_ready_9 : decode b_M_ready 9 = .ok (.aload_n 0, 1) := by decide +kernel
theorem d_M_ready_10 : decode b_M_ready 10 = .ok (.getfield 48, 3) := by decide +kernel
theorem d_M_ready_13 : decode b_M_ready 13 = .ok (.iload_n 1, 1) := by decide +kernel
theorem d_M_ready_14 : decode b_M_ready 14 = .ok (.iaload, 1) := by decide +kernel
theorem d_M_ready_15 : decode b_M_ready 15 = .ok (.aload_n 0, 1) := by decide +kernel
theorem d_M_ready_16 : decode b_M_ready 16 = .ok (.getfield 45, 3) := by decide +kernel
theorem d_M_ready_19 : decode b_M_ready 19 = .ok (.iload_n 1, 1) := by decide +kernel
theorem d_M_ready_20 : decode b_M_ready 20 = .ok (.iaload, 1) := by decide +kernel
theorem d_M_ready_21 : decode b_M_ready 21 = .ok (.if_icmp .lt 5, 3) := by decide +kernel
theorem d_M_ready_24 : decode b_M_ready 24 = .ok (.iconst 0, 1) := by decide +kernel
theorem d_M_ready_25 : decode b_M_ready 25 = .ok (.ireturn, 1) := by decide +kernel
theorem d_M_ready_26 : decode b_M_ready 26 = .ok (.iconst 0, 1) := by decide +kernel
theorem d_M_ready_27 : decode b_M_ready 27 = .ok (.istore_n 2, 1) := by decide +kernel
theorem d_M_ready_28 : decode b_M_ready 28 = .ok (.iload_n 2, 1) := by decide +kernel
theorem d_M_ready_29 : decode b_M_ready 29 = .ok (.aload_n 0, 1) := by decide +kernel
theorem d_M_ready_30 : decode b_M_ready 30 = .ok (.getfield 83, 3) := by decide +kernel
theorem d_M_ready_33 : decode b_M_ready 33 = .ok (.if_icmp .ge 36, 3) := by decide +kernel
theorem d_M_ready_36 : decode b_M_ready 36 = .ok (.aload_n 0, 1) := by decide +kernel
theorem d_M_ready_37 : decode b_M_ready 37 = .ok (.getfield 23, 3) := by decide +kernel
theorem d_M_ready_40 : decode b_M_ready 40 = .ok (.iload_n 2, 1) := by decide +kernel
theorem d_M_ready_41 : decode b_M_ready 41 = .ok (.iaload, 1) := by decide +kernel
theorem d_M_ready_42 : decode b_M_ready 42 = .ok (.iload_n 1, 1) := by decide +kernel
theorem d_M_ready_43 : decode b_M_ready 43 = .ok (.if_icmp .ne 20, 3) := by decide +kernel
theorem d_M_ready_46 : decode b_M_ready 46 = .ok (.aload_n 0, 1) := by decide +kernel
theorem d_M_ready_47 : decode b_M_ready 47 = .ok (.getfield 57, 3) := by decide +kernel
theorem d_M_ready_50 : decode b_M_ready 50 = .ok (.iload_n 2, 1) := by decide +kernel
theorem d_M_ready_51 : decode b_M_ready 51 = .ok (.iaload, 1) := by decide +kernel
theorem d_M_ready_52 : decode b_M_ready 52 = .ok (.aload_n 0, 1) := by decide +kernel
theorem d_M_ready_53 : decode b_M_ready 53 = .ok (.getfield 29, 3) := by decide +kernel
theorem d_M_ready_56 : decode b_M_ready 56 = .ok (.iload_n 2, 1) := by decide +kernel
theorem d_M_ready_57 : decode b_M_ready 57 = .ok (.iaload, 1) := by decide +kernel
theorem d_M_ready_58 : decode b_M_ready 58 = .ok (.if_icmp .ge 5, 3) := by decide +kernel
theorem d_M_ready_61 : decode b_M_ready 61 = .ok (.iconst 0, 1) := by decide +kernel
theorem d_M_ready_62 : decode b_M_ready 62 = .ok (.ireturn, 1) := by decide +kernel
theorem d_M_ready_63 : decode b_M_ready 63 = .ok (.iinc 2 1, 3) := by decide +kernel
theorem d_M_ready_66 : decode b_M_ready 66 = .ok (.goto (-38), 3) := by decide +kernel
theorem d_M_ready_69 : decode b_M_ready 69 = .ok (.iconst 1, 1) := by decide +kernel
theorem d_M_ready_70 : decode b_M_ready 70 = .ok (.ireturn, 1) := by decide +kernel
theorem d_M_growth_0 : decode b_M_growth 0 = .ok (.iconst 0, 1) := by decide +kernel
theorem d_M_growth_1 : decode b_M_growth 1 = .ok (.istore_n 2, 1) := by decide +kernel
theorem d_M_growth_2 : decode b_M_growth 2 = .ok (.iconst 0, 1) := by decide +kernel
theorem d_M_growth_3 : decode b_M_growth 3 = .ok (.istore_n 3, 1) := by decide +kernel
theorem d_M_growth_4 : decode b_M_growth 4 = .ok (.iload_n 3, 1) := by decide +kernel
theorem d_M_growth_5 : decode b_M_growth 5 = .ok (.aload_n 0, 1) := by decide +kernel
theorem d_M_growth_6 : decode b_M_growth 6 = .ok (.getfield 83, 3) := by decide +kernel
theorem d_M_growth_9 : decode b_M_growth 9 = .ok (.if_icmp .ge 47, 3) := by decide +kernel
theorem d_M_growth_12 : decode b_M_growth 12 = .ok (.aload_n 0, 1) := by decide +kernel
theorem d_M_growth_13 : decode b_M_growth 13 = .ok (.getfield 20, 3) := by decide +kernel
theorem d_M_growth_16 : decode b_M_growth 16 = .ok (.iload_n 3, 1) := by decide +kernel
theorem d_M_growth_17 : decode b_M_growth 17 = .ok (.iaload, 1) := by decide +kernel
theorem d_M_growth_18 : decode b_M_growth 18 = .ok (.iload_n 1, 1) := by decide +kernel
theorem d_M_growth_19 : decode b_M_growth 19 = .ok (.if_icmp .ne 12, 3) := by decide +kernel
theorem d_M_growth_22 : decode b_M_growth 22 = .ok (.iload_n 2, 1) := by decide +kernel
theorem d_M_growth_23 : decode b_M_growth 23 = .ok (.aload_n 0, 1) := by decide +kernel
theorem d_M_growth_24 : decode b_M_growth 24 = .ok (.getfield 26, 3) := by decide +kernel
theorem d_M_growth_27 : decode b_M_growth 27 = .ok (.iload_n 3, 1) := by decide +kernel
theorem d_M_growth_28 : decode b_M_growth 28 = .ok (.iaload, 1) := by decide +kernel
theorem d_M_growth_29 : decode b_M_growth 29 = .ok (.iadd, 1) := by decide +kernel
theorem d_M_growth_30 : decode b_M_growth 30 = .ok (.istore_n 2, 1) := by decide +kernel
theorem d_M_growth_31 : decode b_M_growth 31 = .ok (.aload_n 0, 1) := by decide +kernel
theorem d_M_growth_32 : decode b_M_growth 32 = .ok (.getfield 23, 3) := by decide +kernel
theorem d_M_growth_35 : decode b_M_growth 35 = .ok (.iload_n 3, 1) := by decide +kernel
theorem d_M_growth_36 : decode b_M_growth 36 = .ok (.iaload, 1) := by decide +kernel
theorem d_M_growth_37 : decode b_M_growth 37 = .ok (.iload_n 1, 1) := by decide +kernel
theorem d_M_growth_38 : decode b_M_growth 38 = .ok (.if_icmp .ne 12, 3) := by decide +kernel
theorem d_M_growth_41 : decode b_M_growth 41 = .ok (.iload_n 2, 1) := by decide +kernel
theorem d_M_growth_42 : decode b_M_growth 42 = .ok (.aload_n 0, 1) := by decide +kernel
theorem d_M_growth_43 : decode b_M_growth 43 = .ok (.getfield 29, 3) := by decide +kernel
theorem d_M_growth_46 : decode b_M_growth 46 = .ok (.iload_n 3, 1) := by decide +kernel
theorem d_M_growth_47 : decode b_M_growth 47 = .ok (.iaload, 1) := by decide +kernel
theorem d_M_growth_48 : decode b_M_growth 48 = .ok (.isub, 1) := by decide +kernel
theorem d_M_growth_49 : decode b_M_growth 49 = .ok (.istore_n 2, 1) := by decide +kernel
theorem d_M_growth_50 : decode b_M_growth 50 = .ok (.iinc 3 1, 3) := by decide +kernel
theorem d_M_growth_53 : decode b_M_growth 53 = .ok (.goto (-49), 3) := by decide +kernel
theorem d_M_growth_56 : decode b_M_growth 56 = .ok (.iload_n 2, 1) := by decide +kernel
theorem d_M_growth_57 : decode b_M_growth 57 = .ok (.ireturn, 1) := by decide +kernel
theorem d_M_pick_0 : decode b_M_pick 0 = .ok (.iload_n 1, 1) := by decide +kernel
theorem d_M_pick_1 : decode b_M_pick 1 = .ok (.iconst 2, 1) := by decide +kernel
theorem d_M_pick_2 : decode b_M_pick 2 = .ok (.if_icmp .ne 17, 3) := by decide +kernel
theorem d_M_pick_5 : decode b_M_pick 5 = .ok (.iload_n 2, 1) := by decide +kernel
theorem d_M_pick_6 : decode b_M_pick 6 = .ok (.ifCond .lt 13, 3) := by decide +kernel
theorem d_M_pick_9 : decode b_M_pick 9 = .ok (.aload_n 0, 1) := by decide +kernel
theorem d_M_pick_10 : decode b_M_pick 10 = .ok (.iload_n 2, 1) := by decide +kernel
theorem d_M_pick_11 : decode b_M_pick 11 = .ok (.invokevirtual 101, 3) := by decide +kernel
theorem d_M_pick_14 : decode b_M_pick 14 = .ok (.ifCond .eq 5, 3) := by decide +kernel
theorem d_M_pick_17 : decode b_M_pick 17 = .ok (.iload_n 2, 1) := by decide +kernel
theorem d_M_pick_18 : decode b_M_pick 18 = .ok (.ireturn, 1) := by decide +kernel
theorem d_M_pick_19 : decode b_M_pick 19 = .ok (.iconst (-1), 1) := by decide +kernel
theorem d_M_pick_20 : decode b_M_pick 20 = .ok (.istore_n 3, 1) := by decide +kernel
theorem d_M_pick_21 : decode b_M_pick 21 = .ok (.iconst 0, 1) := by decide +kernel
theorem d_M_pick_22 : decode b_M_pick 22 = .ok (.istore 4, 2) := by decide +kernel
theorem d_M_pick_24 : decode b_M_pick 24 = .ok (.iload 4, 2) := by decide +kernel
theorem d_M_pick_26 : decode b_M_pick 26 = .ok (.bipush 8, 2) := by decide +kernel
theorem d_M_pick_28 : decode b_M_pick 28 = .ok (.if_icmp .ge 68, 3) := by decide +kernel
theorem d_M_pick_31 : decode b_M_pick 31 = .ok (.iload_n 1, 1) := by decide +kernel
theorem d_M_pick_32 : decode b_M_pick 32 = .ok (.iconst 2, 1) := by decide +kernel
theorem d_M_pick_33 : decode b_M_pick 33 = .ok (.if_icmp .ne 15, 3) := by decide +kernel
theorem d_M_pick_36 : decode b_M_pick 36 = .ok (.iload 4, 2) := by decide +kernel
theorem d_M_pick_38 : decode b_M_pick 38 = .ok (.iload_n 2, 1) := by decide +kernel
theorem d_M_pick_39 : decode b_M_pick 39 = .ok (.iadd, 1) := by decide +kernel
theorem d_M_pick_40 : decode b_M_pick 40 = .ok (.iconst 1, 1) := by decide +kernel
theorem d_M_pick_41 : decode b_M_pick 41 = .ok (.iadd, 1) := by decide +kernel
theorem d_M_pick_42 : decode b_M_pick 42 = .ok (.bipush 8, 2) := by decide +kernel
theorem d_M_pick_44 : decode b_M_pick 44 = .ok (.irem, 1) := by decide +kernel
theorem d_M_pick_45 : decode b_M_pick 45 = .ok (.goto 5, 3) := by decide +kernel
theorem d_M_pick_48 : decode b_M_pick 48 = .ok (.iload 4, 2) := by decide +kernel
theorem d_M_pick_50 : decode b_M_pick 50 = .ok (.istore 5, 2) := by decide +kernel
theorem d_M_pick_52 : decode b_M_pick 52 = .ok (.aload_n 0, 1) := by decide +kernel
theorem d_M_pick_53 : decode b_M_pick 53 = .ok (.iload 5, 2) := by decide +kernel
theorem d_M_pick_55 : decode b_M_pick 55 = .ok (.invokevirtual 101, 3) := by decide +kernel
theorem d_M_pick_58 : decode b_M_pick 58 = .ok (.ifCond .ne 6, 3) := by decide +kernel
theorem d_M_pick_61 : decode b_M_pick 61 = .ok (.goto 29, 3) := by decide +kernel
theorem d_M_pick_64 : decode b_M_pick 64 = .ok (.iload_n 3, 1) := by decide +kernel
theorem d_M_pick_65 : decode b_M_pick 65 = .ok (.ifCond .lt 22, 3) := by decide +kernel
theorem d_M_pick_68 : decode b_M_pick 68 = .ok (.iload_n 1, 1) := by decide +kernel
theorem d_M_pick_69 : decode b_M_pick 69 = .ok (.iconst 1, 1) := by decide +kernel
theorem d_M_pick_70 : decode b_M_pick 70 = .ok (.if_icmp .ne 20, 3) := by decide +kernel
theorem d_M_pick_73 : decode b_M_pick 73 = .ok (.aload_n 0, 1) := by decide +kernel
theorem d_M_pick_74 : decode b_M_pick 74 = .ok (.iload 5, 2) := by decide +kernel
theorem d_M_pick_76 : decode b_M_pick 76 = .ok (.invokevirtual 104, 3) := by decide +kernel
theorem d_M_pick_79 : decode b_M_pick 79 = .ok (.aload_n 0, 1) := by decide +kernel
theorem d_M_pick_80 : decode b_M_pick 80 = .ok (.iload_n 3, 1) := by decide +kernel
theorem d_M_pick_81 : decode b_M_pick 81 = .ok (.invokevirtual 104, 3) := by decide +kernel
theorem d_M_pick_84 : decode b_M_pick 84 = .ok (.if_icmp .ge 6, 3) := by decide +kernel
theorem d_M_pick_87 : decode b_M_pick 87 = .ok (.iload 5, 2) := by decide +kernel
theorem d_M_pick_89 : decode b_M_pick 89 = .ok (.istore_n 3, 1) := by decide +kernel
theorem d_M_pick_90 : decode b_M_pick 90 = .ok (.iinc 4 1, 3) := by decide +kernel
theorem d_M_pick_93 : decode b_M_pick 93 = .ok (.goto (-69), 3) := by decide +kernel
theorem d_M_pick_96 : decode b_M_pick 96 = .ok (.iload_n 3, 1) := by decide +kernel
theorem d_M_pick_97 : decode b_M_pick 97 = .ok (.ireturn, 1) := by decide +kernel
theorem d_M_step_0 : decode b_M_step 0 = .ok (.iconst 0, 1) := by decide +kernel
theorem d_M_step_1 : decode b_M_step 1 = .ok (.istore_n 2, 1) := by decide +kernel
theorem d_M_step_2 : decode b_M_step 2 = .ok (.iload_n 2, 1) := by decide +kernel
theorem d_M_step_3 : decode b_M_step 3 = .ok (.aload_n 0, 1) := by decide +kernel
theorem d_M_step_4 : decode b_M_step 4 = .ok (.getfield 83, 3) := by decide +kernel
theorem d_M_step_7 : decode b_M_step 7 = .ok (.if_icmp .ge 34, 3) := by decide +kernel
theorem d_M_step_10 : decode b_M_step 10 = .ok (.aload_n 0, 1) := by decide +kernel
theorem d_M_step_11 : decode b_M_step 11 = .ok (.getfield 23, 3) := by decide +kernel
theorem d_M_step_14 : decode b_M_step 14 = .ok (.iload_n 2, 1) := by decide +kernel
theorem d_M_step_15 : decode b_M_step 15 = .ok (.iaload, 1) := by decide +kernel
theorem d_M_step_16 : decode b_M_step 16 = .ok (.iload_n 1, 1) := by decide +kernel
theorem d_M_step_17 : decode b_M_step 17 = .ok (.if_icmp .ne 18, 3) := by decide +kernel
theorem d_M_step_20 : decode b_M_step 20 = .ok (.aload_n 0, 1) := by decide +kernel
theorem d_M_step_21 : decode b_M_step 21 = .ok (.getfield 57, 3) := by decide +kernel
theorem d_M_step_24 : decode b_M_step 24 = .ok (.iload_n 2, 1) := by decide +kernel
theorem d_M_step_25 : decode b_M_step 25 = .ok (.dup2, 1) := by decide +kernel
theorem d_M_step_26 : decode b_M_step 26 = .ok (.iaload, 1) := by decide +kernel
theorem d_M_step_27 : decode b_M_step 27 = .ok (.aload_n 0, 1) := by decide +kernel
theorem d_M_step_28 : decode b_M_step 28 = .ok (.getfield 29, 3) := by decide +kernel
theorem d_M_step_31 : decode b_M_step 31 = .ok (.iload_n 2, 1) := by decide +kernel
theorem d_M_step_32 : decode b_M_step 32 = .ok (.iaload, 1) := by decide +kernel
theorem d_M_step_33 : decode b_M_step 33 = .ok (.isub, 1) := by decide +kernel
theorem d_M_step_34 : decode b_M_step 34 = .ok (.iastore, 1) := by decide +kernel
theorem d_M_step_35 : decode b_M_step 35 = .ok (.iinc 2 1, 3) := by decide +kernel
theorem d_M_step_38 : decode b_M_step 38 = .ok (.goto (-36), 3) := by decide +kernel
theorem d_M_step_41 : decode b_M_step 41 = .ok (.iconst 0, 1) := by decide +kernel
theorem d_M_step_42 : decode b_M_step 42 = .ok (.istore_n 2, 1) := by decide +kernel
theorem d_M_step_43 : decode b_M_step 43 = .ok (.iload_n 2, 1) := by decide +kernel
theorem d_M_step_44 : decode b_M_step 44 = .ok (.aload_n 0, 1) := by decide +kernel
theorem d_M_step_45 : decode b_M_step 45 = .ok (.getfield 83, 3) := by decide +kernel
theorem d_M_step_48 : decode b_M_step 48 = .ok (.if_icmp .ge 34, 3) := by decide +kernel
theorem d_M_step_51 : decode b_M_step 51 = .ok (.aload_n 0, 1) := by decide +kernel
theorem d_M_step_52 : decode b_M_step 52 = .ok (.getfield 20, 3) := by decide +kernel
theorem d_M_step_55 : decode b_M_step 55 = .ok (.iload_n 2, 1) := by decide +kernel
theorem d_M_step_56 : decode b_M_step 56 = .ok (.iaload, 1) := by decide +kernel
theorem d_M_step_57 : decode b_M_step 57 = .ok (.iload_n 1, 1) := by decide +kernel
theorem d_M_step_58 : decode b_M_step 58 = .ok (.if_icmp .ne 18, 3) := by decide +kernel
theorem d_M_step_61 : decode b_M_step 61 = .ok (.aload_n 0, 1) := by decide +kernel
theorem d_M_step_62 : decode b_M_step 62 = .ok (.getfield 57, 3) := by decide +kernel
theorem d_M_step_65 : decode b_M_step 65 = .ok (.iload_n 2, 1) := by decide +kernel
theorem d_M_step_66 : decode b_M_step 66 = .ok (.dup2, 1) := by decide +kernel
theorem d_M_step_67 : decode b_M_step 67 = .ok (.iaload, 1) := by decide +kernel
theorem d_M_step_68 : decode b_M_step 68 = .ok (.aload_n 0, 1) := by decide +kernel
theorem d_M_step_69 : decode b_M_step 69 = .ok (.getfield 26, 3) := by decide +kernel
theorem d_M_step_72 : decode b_M_step 72 = .ok (.iload_n 2, 1) := by decide +kernel
theorem d_M_step_73 : decode b_M_step 73 = .ok (.iaload, 1) := by decide +kernel
theorem d_M_step_74 : decode b_M_step 74 = .ok (.iadd, 1) := by decide +kernel
theorem d_M_step_75 : decode b_M_step 75 = .ok (.iastore, 1) := by decide +kernel
theorem d_M_step_76 : decode b_M_step 76 = .ok (.iinc 2 1, 3) := by decide +kernel
theorem d_M_step_79 : decode b_M_step 79 = .ok (.goto (-36), 3) := by decide +kernel
theorem d_M_step_82 : decode b_M_step 82 = .ok (.iconst 0, 1) := by decide +kernel
theorem d_M_step_83 : decode b_M_step 83 = .ok (.istore_n 2, 1) := by decide +kernel
theorem d_M_step_84 : decode b_M_step 84 = .ok (.iload_n 2, 1) := by decide +kernel
theorem d_M_step_85 : decode b_M_step 85 = .ok (.aload_n 0, 1) := by decide +kernel
theorem d_M_step_86 : decode b_M_step 86 = .ok (.getfield 83, 3) := by decide +kernel
theorem d_M_step_89 : decode b_M_step 89 = .ok (.if_icmp .ge 36, 3) := by decide +kernel
theorem d_M_step_92 : decode b_M_step 92 = .ok (.aload_n 0, 1) := by decide +kernel
theorem d_M_step_93 : decode b_M_step 93 = .ok (.getfield 57, 3) := by decide +kernel
theorem d_M_step_96 : decode b_M_step 96 = .ok (.iload_n 2, 1) := by decide +kernel
theorem d_M_step_97 : decode b_M_step 97 = .ok (.iaload, 1) := by decide +kernel
theorem d_M_step_98 : decode b_M_step 98 = .ok (.aload_n 0, 1) := by decide +kernel
theorem d_M_step_99 : decode b_M_step 99 = .ok (.getfield 54, 3) := by decide +kernel
theorem d_M_step_102 : decode b_M_step 102 = .ok (.iload_n 2, 1) := by decide +kernel
theorem d_M_step_103 : decode b_M_step 103 = .ok (.iaload, 1) := by decide +kernel
theorem d_M_step_104 : decode b_M_step 104 = .ok (.if_icmp .le 15, 3) := by decide +kernel
theorem d_M_step_107 : decode b_M_step 107 = .ok (.aload_n 0, 1) := by decide +kernel
theorem d_M_step_108 : decode b_M_step 108 = .ok (.getfield 54, 3) := by decide +kernel
theorem d_M_step_111 : decode b_M_step 111 = .ok (.iload_n 2, 1) := by decide +kernel
theorem d_M_step_112 : decode b_M_step 112 = .ok (.aload_n 0, 1) := by decide +kernel
theorem d_M_step_113 : decode b_M_step 113 = .ok (.getfield 57, 3) := by decide +kernel
theorem d_M_step_116 : decode b_M_step 116 = .ok (.iload_n 2, 1) := by decide +kernel
theorem d_M_step_117 : decode b_M_step 117 = .ok (.iaload, 1) := by decide +kernel
theorem d_M_step_118 : decode b_M_step 118 = .ok (.iastore, 1) := by decide +kernel
theorem d_M_step_119 : decode b_M_step 119 = .ok (.iinc 2 1, 3) := by decide +kernel
theorem d_M_step_122 : decode b_M_step 122 = .ok (.goto (-38), 3) := by decide +kernel
theorem d_M_step_125 : decode b_M_step 125 = .ok (.aload_n 0, 1) := by decide +kernel
theorem d_M_step_126 : decode b_M_step 126 = .ok (.getfield 48, 3) := by decide +kernel
theorem d_M_step_129 : decode b_M_step 129 = .ok (.iload_n 1, 1) := by decide +kernel
theorem d_M_step_130 : decode b_M_step 130 = .ok (.dup2, 1) := by decide +kernel
theorem d_M_step_131 : decode b_M_step 131 = .ok (.iaload, 1) := by decide +kernel
theorem d_M_step_132 : decode b_M_step 132 = .ok (.iconst 1, 1) := by decide +kernel
theorem d_M_step_133 : decode b_M_step 133 = .ok (.iadd, 1) := by decide +kernel
theorem d_M_step_134 : decode b_M_step 134 = .ok (.iastore, 1) := by decide +kernel
theorem d_M_step_135 : decode b_M_step 135 = .ok (.aload_n 0, 1) := by decide +kernel
theorem d_M_step_136 : decode b_M_step 136 = .ok (.getfield 51, 3) := by decide +kernel
theorem d_M_step_139 : decode b_M_step 139 = .ok (.aload_n 0, 1) := by decide +kernel
theorem d_M_step_140 : decode b_M_step 140 = .ok (.getfield 108, 3) := by decide +kernel
theorem d_M_step_143 : decode b_M_step 143 = .ok (.iload_n 1, 1) := by decide +kernel
theorem d_M_step_144 : decode b_M_step 144 = .ok (.iastore, 1) := by decide +kernel
theorem d_M_step_145 : decode b_M_step 145 = .ok (.aload_n 0, 1) := by decide +kernel
theorem d_M_step_146 : decode b_M_step 146 = .ok (.dup, 1) := by decide +kernel
theorem d_M_step_147 : decode b_M_step 147 = .ok (.getfield 108, 3) := by decide +kernel
theorem d_M_step_150 : decode b_M_step 150 = .ok (.iconst 1, 1) := by decide +kernel
theorem d_M_step_151 : decode b_M_step 151 = .ok (.iadd, 1) := by decide +kernel
theorem d_M_step_152 : decode b_M_step 152 = .ok (.putfield 108, 3) := by decide +kernel
theorem d_M_step_155 : decode b_M_step 155 = .ok (.return_, 1) := by decide +kernel
theorem d_M_solve_0 : decode b_M_solve 0 = .ok (.iload_n 1, 1) := by decide +kernel
theorem d_M_solve_1 : decode b_M_solve 1 = .ok (.ifCond .lt 8, 3) := by decide +kernel
theorem d_M_solve_4 : decode b_M_solve 4 = .ok (.iload_n 1, 1) := by decide +kernel
theorem d_M_solve_5 : decode b_M_solve 5 = .ok (.iconst 2, 1) := by decide +kernel
theorem d_M_solve_6 : decode b_M_solve 6 = .ok (.if_icmp .le 5, 3) := by decide +kernel
theorem d_M_solve_9 : decode b_M_solve 9 = .ok (.iconst (-1), 1) := by decide +kernel
theorem d_M_solve_10 : decode b_M_solve 10 = .ok (.ireturn, 1) := by decide +kernel
theorem d_M_solve_11 : decode b_M_solve 11 = .ok (.aload_n 0, 1) := by decide +kernel
theorem d_M_solve_12 : decode b_M_solve 12 = .ok (.iconst 0, 1) := by decide +kernel
theorem d_M_solve_13 : decode b_M_solve 13 = .ok (.putfield 75, 3) := by decide +kernel
theorem d_M_solve_16 : decode b_M_solve 16 = .ok (.iconst 0, 1) := by decide +kernel
theorem d_M_solve_17 : decode b_M_solve 17 = .ok (.istore_n 2, 1) := by decide +kernel
theorem d_M_solve_18 : decode b_M_solve 18 = .ok (.iconst 0, 1) := by decide +kernel
theorem d_M_solve_19 : decode b_M_solve 19 = .ok (.istore_n 3, 1) := by decide +kernel
theorem d_M_solve_20 : decode b_M_solve 20 = .ok (.iload_n 3, 1) := by decide +kernel
theorem d_M_solve_21 : decode b_M_solve 21 = .ok (.bipush 8, 2) := by decide +kernel
theorem d_M_solve_23 : decode b_M_solve 23 = .ok (.if_icmp .ge 21, 3) := by decide +kernel
theorem d_M_solve_26 : decode b_M_solve 26 = .ok (.aload_n 0, 1) := by decide +kernel
theorem d_M_solve_27 : decode b_M_solve 27 = .ok (.getfield 7, 3) := by decide +kernel
theorem d_M_solve_30 : decode b_M_solve 30 = .ok (.iload_n 3, 1) := by decide +kernel
theorem d_M_solve_31 : decode b_M_solve 31 = .ok (.baload, 1) := by decide +kernel
theorem d_M_solve_32 : decode b_M_solve 32 = .ok (.ifCond .eq 6, 3) := by decide +kernel
theorem d_M_solve_35 : decode b_M_solve 35 = .ok (.iinc 2 1, 3) := by decide +kernel
theorem d_M_solve_38 : decode b_M_solve 38 = .ok (.iinc 3 1, 3) := by decide +kernel
theorem d_M_solve_41 : decode b_M_solve 41 = .ok (.goto (-21), 3) := by decide +kernel
theorem d_M_solve_44 : decode b_M_solve 44 = .ok (.iload_n 2, 1) := by decide +kernel
theorem d_M_solve_45 : decode b_M_solve 45 = .ok (.ifCond .ne 6, 3) := by decide +kernel
theorem d_M_solve_48 : decode b_M_solve 48 = .ok (.bipush (-4), 2) := by decide +kernel
theorem d_M_solve_50 : decode b_M_solve 50 = .ok (.ireturn, 1) := by decide +kernel
theorem d_M_solve_51 : decode b_M_solve 51 = .ok (.iconst 1, 1) := by decide +kernel
theorem d_M_solve_52 : decode b_M_solve 52 = .ok (.istore_n 3, 1) := by decide +kernel
theorem d_M_solve_53 : decode b_M_solve 53 = .ok (.iload_n 3, 1) := by decide +kernel
theorem d_M_solve_54 : decode b_M_solve 54 = .ok (.aload_n 0, 1) := by decide +kernel
theorem d_M_solve_55 : decode b_M_solve 55 = .ok (.getfield 83, 3) := by decide +kernel
theorem d_M_solve_58 : decode b_M_solve 58 = .ok (.if_icmp .gt 24, 3) := by decide +kernel
theorem d_M_solve_61 : decode b_M_solve 61 = .ok (.aload_n 0, 1) := by decide +kernel
theorem d_M_solve_62 : decode b_M_solve 62 = .ok (.iload_n 3, 1) := by decide +kernel
theorem d_M_solve_63 : decode b_M_solve 63 = .ok (.invokevirtual 111, 3) := by decide +kernel
theorem d_M_solve_66 : decode b_M_solve 66 = .ok (.ifCond .ne 10, 3) := by decide +kernel
theorem d_M_solve_69 : decode b_M_solve 69 = .ok (.bipush (-100), 2) := by decide +kernel
theorem d_M_solve_71 : decode b_M_solve 71 = .ok (.iload_n 3, 1) := by decide +kernel
theorem d_M_solve_72 : decode b_M_solve 72 = .ok (.iconst 1, 1) := by decide +kernel
theorem d_M_solve_73 : decode b_M_solve 73 = .ok (.isub, 1) := by decide +kernel
theorem d_M_solve_74 : decode b_M_solve 74 = .ok (.isub, 1) := by decide +kernel
theorem d_M_solve_75 : decode b_M_solve 75 = .ok (.ireturn, 1) := by decide +kernel
theorem d_M_solve_76 : decode b_M_solve 76 = .ok (.iinc 3 1, 3) := by decide +kernel
theorem d_M_solve_79 : decode b_M_solve 79 = .ok (.goto (-26), 3) := by decide +kernel
theorem d_M_solve_82 : decode b_M_solve 82 = .ok (.aload_n 0, 1) := by decide +kernel
theorem d_M_solve_83 : decode b_M_solve 83 = .ok (.aload_n 0, 1) := by decide +kernel
theorem d_M_solve_84 : decode b_M_solve 84 = .ok (.getfield 83, 3) := by decide +kernel
theorem d_M_solve_87 : decode b_M_solve 87 = .ok (.invokevirtual 111, 3) := by decide +kernel
theorem d_M_solve_90 : decode b_M_solve 90 = .ok (.istore_n 3, 1) := by decide +kernel
theorem d_M_solve_91 : decode b_M_solve 91 = .ok (.aload_n 0, 1) := by decide +kernel
theorem d_M_solve_92 : decode b_M_solve 92 = .ok (.invokevirtual 114, 3) := by decide +kernel
theorem d_M_solve_95 : decode b_M_solve 95 = .ok (.istore 4, 2) := by decide +kernel
theorem d_M_solve_97 : decode b_M_solve 97 = .ok (.iload 4, 2) := by decide +kernel
theorem d_M_solve_99 : decode b_M_solve 99 = .ok (.bipush 64, 2) := by decide +kernel
theorem d_M_solve_101 : decode b_M_solve 101 = .ok (.if_icmp .le 6, 3) := by decide +kernel
theorem d_M_solve_104 : decode b_M_solve 104 = .ok (.bipush (-3), 2) := by decide +kernel
theorem d_M_solve_106 : decode b_M_solve 106 = .ok (.ireturn, 1) := by decide +kernel
theorem d_M_solve_107 : decode b_M_solve 107 = .ok (.iconst 0, 1) := by decide +kernel
theorem d_M_solve_108 : decode b_M_solve 108 = .ok (.istore 5, 2) := by decide +kernel
theorem d_M_solve_110 : decode b_M_solve 110 = .ok (.iload 5, 2) := by decide +kernel
theorem d_M_solve_112 : decode b_M_solve 112 = .ok (.bipush 8, 2) := by decide +kernel
theorem d_M_solve_114 : decode b_M_solve 114 = .ok (.if_icmp .ge 33, 3) := by decide +kernel
theorem d_M_solve_117 : decode b_M_solve 117 = .ok (.aload_n 0, 1) := by decide +kernel
theorem d_M_solve_118 : decode b_M_solve 118 = .ok (.getfield 48, 3) := by decide +kernel
theorem d_M_solve_121 : decode b_M_solve 121 = .ok (.iload 5, 2) := by decide +kernel
theorem d_M_solve_123 : decode b_M_solve 123 = .ok (.aload_n 0, 1) := by decide +kernel
theorem d_M_solve_124 : decode b_M_solve 124 = .ok (.getfield 66, 3) := by decide +kernel
theorem d_M_solve_127 : decode b_M_solve 127 = .ok (.iload 5, 2) := by decide +kernel
theorem d_M_solve_129 : decode b_M_solve 129 = .ok (.aload_n 0, 1) := by decide +kernel
theorem d_M_solve_130 : decode b_M_solve 130 = .ok (.getfield 69, 3) := by decide +kernel
theorem d_M_solve_133 : decode b_M_solve 133 = .ok (.iload 5, 2) := by decide +kernel
theorem d_M_solve_135 : decode b_M_solve 135 = .ok (.iconst 0, 1) := by decide +kernel
theorem d_M_solve_136 : decode b_M_solve 136 = .ok (.dup_x2, 1) := by decide +kernel
theorem d_M_solve_137 : decode b_M_solve 137 = .ok (.iastore, 1) := by decide +kernel
theorem d_M_solve_138 : decode b_M_solve 138 = .ok (.dup_x2, 1) := by decide +kernel
theorem d_M_solve_139 : decode b_M_solve 139 = .ok (.iastore, 1) := by decide +kernel
theorem d_M_solve_140 : decode b_M_solve 140 = .ok (.iastore, 1) := by decide +kernel
theorem d_M_solve_141 : decode b_M_solve 141 = .ok (.iinc 5 1, 3) := by decide +kernel
theorem d_M_solve_144 : decode b_M_solve 144 = .ok (.goto (-34), 3) := by decide +kernel
theorem d_M_solve_147 : decode b_M_solve 147 = .ok (.iconst 0, 1) := by decide +kernel
theorem d_M_solve_148 : decode b_M_solve 148 = .ok (.istore 5, 2) := by decide +kernel
theorem d_M_solve_150 : decode b_M_solve 150 = .ok (.iload 5, 2) := by decide +kernel
theorem d_M_solve_152 : decode b_M_solve 152 = .ok (.aload_n 0, 1) := by decide +kernel
theorem d_M_solve_153 : decode b_M_solve 153 = .ok (.getfield 83, 3) := by decide +kernel
theorem d_M_solve_156 : decode b_M_solve 156 = .ok (.if_icmp .ge 31, 3) := by decide +kernel
theorem d_M_solve_159 : decode b_M_solve 159 = .ok (.aload_n 0, 1) := by decide +kernel
theorem d_M_solve_160 : decode b_M_solve 160 = .ok (.getfield 57, 3) := by decide +kernel
theorem d_M_solve_163 : decode b_M_solve 163 = .ok (.iload 5, 2) := by decide +kernel
theorem d_M_solve_165 : decode b_M_solve 165 = .ok (.aload_n 0, 1) := by decide +kernel
theorem d_M_solve_166 : decode b_M_solve 166 = .ok (.getfield 54, 3) := by decide +kernel
theorem d_M_solve_169 : decode b_M_solve 169 = .ok (.iload 5, 2) := by decide +kernel
theorem d_M_solve_171 : decode b_M_solve 171 = .ok (.aload_n 0, 1) := by decide +kernel
theorem d_M_solve_172 : decode b_M_solve 172 = .ok (.getfield 32, 3) := by decide +kernel
theorem d_M_solve_175 : decode b_M_solve 175 = .ok (.iload 5, 2) := by decide +kernel
theorem d_M_solve_177 : decode b_M_solve 177 = .ok (.iaload, 1) := by decide +kernel
theorem d_M_solve_178 : decode b_M_solve 178 = .ok (.dup_x2, 1) := by decide +kernel
theorem d_M_solve_179 : decode b_M_solve 179 = .ok (.iastore, 1) := by decide +kernel
theorem d_M_solve_180 : decode b_M_solve 180 = .ok (.iastore, 1) := by decide +kernel
theorem d_M_solve_181 : decode b_M_solve 181 = .ok (.iinc 5 1, 3) := by decide +kernel
theorem d_M_solve_184 : decode b_M_solve 184 = .ok (.goto (-34), 3) := by decide +kernel
theorem d_M_solve_187 : decode b_M_solve 187 = .ok (.aload_n 0, 1) := by decide +kernel
theorem d_M_solve_188 : decode b_M_solve 188 = .ok (.aload_n 0, 1) := by decide +kernel
theorem d_M_solve_189 : decode b_M_solve 189 = .ok (.iconst 0, 1) := by decide +kernel
theorem d_M_solve_190 : decode b_M_solve 190 = .ok (.dup_x1, 1) := by decide +kernel
theorem d_M_solve_191 : decode b_M_solve 191 = .ok (.putfield 118, 3) := by decide +kernel
theorem d_M_solve_194 : decode b_M_solve 194 = .ok (.putfield 108, 3) := by decide +kernel
theorem d_M_solve_197 : decode b_M_solve 197 = .ok (.iconst (-1), 1) := by decide +kernel
theorem d_M_solve_198 : decode b_M_solve 198 = .ok (.istore 5, 2) := by decide +kernel
theorem d_M_solve_200 : decode b_M_solve 200 = .ok (.aload_n 0, 1) := by decide +kernel
theorem d_M_solve_201 : decode b_M_solve 201 = .ok (.getfield 108, 3) := by decide +kernel
theorem d_M_solve_204 : decode b_M_solve 204 = .ok (.iload 4, 2) := by decide +kernel
theorem d_M_solve_206 : decode b_M_solve 206 = .ok (.if_icmp .ge 76, 3) := by decide +kernel
theorem d_M_solve_209 : decode b_M_solve 209 = .ok (.aload_n 0, 1) := by decide +kernel
theorem d_M_solve_210 : decode b_M_solve 210 = .ok (.iload_n 1, 1) := by decide +kernel
theorem d_M_solve_211 : decode b_M_solve 211 = .ok (.iload 5, 2) := by decide +kernel
theorem d_M_solve_213 : decode b_M_solve 213 = .ok (.invokevirtual 121, 3) := by decide +kernel
theorem d_M_solve_216 : decode b_M_solve 216 = .ok (.istore 5, 2) := by decide +kernel
theorem d_M_solve_218 : decode b_M_solve 218 = .ok (.iload 5, 2) := by decide +kernel
theorem d_M_solve_220 : decode b_M_solve 220 = .ok (.ifCond .ge 53, 3) := by decide +kernel
theorem d_M_solve_223 : decode b_M_solve 223 = .ok (.iconst 0, 1) := by decide +kernel
theorem d_M_solve_224 : decode b_M_solve 224 = .ok (.istore 6, 2) := by decide +kernel
theorem d_M_solve_226 : decode b_M_solve 226 = .ok (.iload 6, 2) := by decide +kernel
theorem d_M_solve_228 : decode b_M_solve 228 = .ok (.bipush 8, 2) := by decide +kernel
theorem d_M_solve_230 : decode b_M_solve 230 = .ok (.if_icmp .ge 43, 3) := by decide +kernel
theorem d_M_solve_233 : decode b_M_solve 233 = .ok (.aload_n 0, 1) := by decide +kernel
theorem d_M_solve_234 : decode b_M_solve 234 = .ok (.getfield 7, 3) := by decide +kernel
theorem d_M_solve_237 : decode b_M_solve 237 = .ok (.iload 6, 2) := by decide +kernel
theorem d_M_solve_239 : decode b_M_solve 239 = .ok (.baload, 1) := by decide +kernel
theorem d_M_solve_240 : decode b_M_solve 240 = .ok (.ifCond .eq 27, 3) := by decide +kernel
theorem d_M_solve_243 : decode b_M_solve 243 = .ok (.aload_n 0, 1) := by decide +kernel
theorem d_M_solve_244 : decode b_M_solve 244 = .ok (.getfield 48, 3) := by decide +kernel
theorem d_M_solve_247 : decode b_M_solve 247 = .ok (.iload 6, 2) := by decide +kernel
theorem d_M_solve_249 : decode b_M_solve 249 = .ok (.iaload, 1) := by decide +kernel
theorem d_M_solve_250 : decode b_M_solve 250 = .ok (.aload_n 0, 1) := by decide +kernel
theorem d_M_solve_251 : decode b_M_solve 251 = .ok (.getfield 45, 3) := by decide +kernel
theorem d_M_solve_254 : decode b_M_solve 254 = .ok (.iload 6, 2) := by decide +kernel
theorem d_M_solve_256 : decode b_M_solve 256 = .ok (.iaload, 1) := by decide +kernel
theorem d_M_solve_257 : decode b_M_solve 257 = .ok (.if_icmp .ge 10, 3) := by decide +kernel
theorem d_M_solve_260 : decode b_M_solve 260 = .ok (.sipush (-200), 3) := by decide +kernel
theorem d_M_solve_263 : decode b_M_solve 263 = .ok (.iload 6, 2) := by decide +kernel
theorem d_M_solve_265 : decode b_M_solve 265 = .ok (.isub, 1) := by decide +kernel
theorem d_M_solve_266 : decode b_M_solve 266 = .ok (.ireturn, 1) := by decide +kernel
theorem d_M_solve_267 : decode b_M_solve 267 = .ok (.iinc 6 1, 3) := by decide +kernel
theorem d_M_solve_270 : decode b_M_solve 270 = .ok (.goto (-44), 3) := by decide +kernel
theorem d_M_solve_273 : decode b_M_solve 273 = .ok (.aload_n 0, 1) := by decide +kernel
theorem d_M_solve_274 : decode b_M_solve 274 = .ok (.iload 5, 2) := by decide +kernel
theorem d_M_solve_276 : decode b_M_solve 276 = .ok (.invokevirtual 125, 3) := by decide +kernel
theorem d_M_solve_279 : decode b_M_solve 279 = .ok (.goto (-79), 3) := by decide +kernel
theorem d_M_solve_282 : decode b_M_solve 282 = .ok (.iconst 0, 1) := by decide +kernel
theorem d_M_solve_283 : decode b_M_solve 283 = .ok (.istore 6, 2) := by decide +kernel
theorem d_M_solve_285 : decode b_M_solve 285 = .ok (.iload 6, 2) := by decide +kernel
theorem d_M_solve_287 : decode b_M_solve 287 = .ok (.aload_n 0, 1) := by decide +kernel
theorem d_M_solve_288 : decode b_M_solve 288 = .ok (.getfield 83, 3) := by decide +kernel
theorem d_M_solve_291 : decode b_M_solve 291 = .ok (.if_icmp .ge 59, 3) := by decide +kernel
theorem d_M_solve_294 : decode b_M_solve 294 = .ok (.aload_n 0, 1) := by decide +kernel
theorem d_M_solve_295 : decode b_M_solve 295 = .ok (.getfield 63, 3) := by decide +kernel
theorem d_M_solve_298 : decode b_M_solve 298 = .ok (.iload 6, 2) := by decide +kernel
theorem d_M_solve_300 : decode b_M_solve 300 = .ok (.aload_n 0, 1) := by decide +kernel
theorem d_M_solve_301 : decode b_M_solve 301 = .ok (.getfield 32, 3) := by decide +kernel
theorem d_M_solve_304 : decode b_M_solve 304 = .ok (.iload 6, 2) := by decide +kernel
theorem d_M_solve_306 : decode b_M_solve 306 = .ok (.iaload, 1) := by decide +kernel
theorem d_M_solve_307 : decode b_M_solve 307 = .ok (.iastore, 1) := by decide +kernel
theorem d_M_solve_308 : decode b_M_solve 308 = .ok (.iconst 0, 1) := by decide +kernel
theorem d_M_solve_309 : decode b_M_solve 309 = .ok (.istore 7, 2) := by decide +kernel
theorem d_M_solve_311 : decode b_M_solve 311 = .ok (.iload 7, 2) := by decide +kernel
theorem d_M_solve_313 : decode b_M_solve 313 = .ok (.aload_n 0, 1) := by decide +kernel
theorem d_M_solve_314 : decode b_M_solve 314 = .ok (.getfield 32, 3) := by decide +kernel
theorem d_M_solve_317 : decode b_M_solve 317 = .ok (.iload 6, 2) := by decide +kernel
theorem d_M_solve_319 : decode b_M_solve 319 = .ok (.iaload, 1) := by decide +kernel
theorem d_M_solve_320 : decode b_M_solve 320 = .ok (.if_icmp .ge 24, 3) := by decide +kernel
theorem d_M_solve_323 : decode b_M_solve 323 = .ok (.aload_n 0, 1) := by decide +kernel
theorem d_M_solve_324 : decode b_M_solve 324 = .ok (.getfield 60, 3) := by decide +kernel
theorem d_M_solve_327 : decode b_M_solve 327 = .ok (.iload 6, 2) := by decide +kernel
theorem d_M_solve_329 : decode b_M_solve 329 = .ok (.sipush 400, 3) := by decide +kernel
theorem d_M_solve_332 : decode b_M_solve 332 = .ok (.imul, 1) := by decide +kernel
theorem d_M_solve_333 : decode b_M_solve 333 = .ok (.iload 7, 2) := by decide +kernel
theorem d_M_solve_335 : decode b_M_solve 335 = .ok (.iadd, 1) := by decide +kernel
theorem d_M_solve_336 : decode b_M_solve 336 = .ok (.iconst 0, 1) := by decide +kernel
theorem d_M_solve_337 : decode b_M_solve 337 = .ok (.iastore, 1) := by decide +kernel
theorem d_M_solve_338 : decode b_M_solve 338 = .ok (.iinc 7 1, 3) := by decide +kernel
theorem d_M_solve_341 : decode b_M_solve 341 = .ok (.goto (-30), 3) := by decide +kernel
theorem d_M_solve_344 : decode b_M_solve 344 = .ok (.iinc 6 1, 3) := by decide +kernel
theorem d_M_solve_347 : decode b_M_solve 347 = .ok (.goto (-62), 3) := by decide +kernel
theorem d_M_solve_350 : decode b_M_solve 350 = .ok (.aload_n 0, 1) := by decide +kernel
theorem d_M_solve_351 : decode b_M_solve 351 = .ok (.iconst 1, 1) := by decide +kernel
theorem d_M_solve_352 : decode b_M_solve 352 = .ok (.putfield 75, 3) := by decide +kernel
theorem d_M_solve_355 : decode b_M_solve 355 = .ok (.iload 4, 2) := by decide +kernel
theorem d_M_solve_357 : decode b_M_solve 357 = .ok (.ireturn, 1) := by decide +kernel
theorem d_M_takeFrom_0 : decode b_M_takeFrom 0 = .ok (.iconst 0, 1) := by decide +kernel
theorem d_M_takeFrom_1 : decode b_M_takeFrom 1 = .ok (.istore_n 2, 1) := by decide +kernel
theorem d_M_takeFrom_2 : decode b_M_takeFrom 2 = .ok (.iconst 0, 1) := by decide +kernel
theorem d_M_takeFrom_3 : decode b_M_takeFrom 3 = .ok (.istore_n 3, 1) := by decide +kernel
theorem d_M_takeFrom_4 : decode b_M_takeFrom 4 = .ok (.iload_n 3, 1) := by decide +kernel
theorem d_M_takeFrom_5 : decode b_M_takeFrom 5 = .ok (.aload_n 0, 1) := by decide +kernel
theorem d_M_takeFrom_6 : decode b_M_takeFrom 6 = .ok (.getfield 29, 3) := by decide +kernel
theorem d_M_takeFrom_9 : decode b_M_takeFrom 9 = .ok (.iload_n 1, 1) := by decide +kernel
theorem d_M_takeFrom_10 : decode b_M_takeFrom 10 = .ok (.iaload, 1) := by decide +kernel
theorem d_M_takeFrom_11 : decode b_M_takeFrom 11 = .ok (.if_icmp .ge 28, 3) := by decide +kernel
theorem d_M_takeFrom_14 : decode b_M_takeFrom 14 = .ok (.iload_n 2, 1) := by decide +kernel
theorem d_M_takeFrom_15 : decode b_M_takeFrom 15 = .ok (.aload_n 0, 1) := by decide +kernel
theorem d_M_takeFrom_16 : decode b_M_takeFrom 16 = .ok (.getfield 60, 3) := by decide +kernel
theorem d_M_takeFrom_19 : decode b_M_takeFrom 19 = .ok (.iload_n 1, 1) := by decide +kernel
theorem d_M_takeFrom_20 : decode b_M_takeFrom 20 = .ok (.sipush 400, 3) := by decide +kernel
theorem d_M_takeFrom_23 : decode b_M_takeFrom 23 = .ok (.imul, 1) := by decide +kernel
theorem d_M_takeFrom_24 : decode b_M_takeFrom 24 = .ok (.iload_n 3, 1) := by decide +kernel
theorem d_M_takeFrom_25 : decode b_M_takeFrom 25 = .ok (.iadd, 1) := by decide +kernel
theorem d_M_takeFrom_26 : decode b_M_takeFrom 26 = .ok (.iaload, 1) := by decide +kernel
theorem d_M_takeFrom_27 : decode b_M_takeFrom 27 = .ok (.iload_n 3, 1) := by decide +kernel
theorem d_M_takeFrom_28 : decode b_M_takeFrom 28 = .ok (.iconst 1, 1) := by decide +kernel
theorem d_M_takeFrom_29 : decode b_M_takeFrom 29 = .ok (.iadd, 1) := by decide +kernel
theorem d_M_takeFrom_30 : decode b_M_takeFrom 30 = .ok (.imul, 1) := by decide +kernel
theorem d_M_takeFrom_31 : decode b_M_takeFrom 31 = .ok (.iadd, 1) := by decide +kernel
theorem d_M_takeFrom_32 : decode b_M_takeFrom 32 = .ok (.istore_n 2, 1) := by decide +kernel
theorem d_M_takeFrom_33 : decode b_M_takeFrom 33 = .ok (.iinc 3 1, 3) := by decide +kernel
theorem d_M_takeFrom_36 : decode b_M_takeFrom 36 = .ok (.goto (-32), 3) := by decide +kernel
theorem d_M_takeFrom_39 : decode b_M_takeFrom 39 = .ok (.aload_n 0, 1) := by decide +kernel
theorem d_M_takeFrom_40 : decode b_M_takeFrom 40 = .ok (.getfield 63, 3) := by decide +kernel
theorem d_M_takeFrom_43 : decode b_M_takeFrom 43 = .ok (.iload_n 1, 1) := by decide +kernel
theorem d_M_takeFrom_44 : decode b_M_takeFrom 44 = .ok (.dup2, 1) := by decide +kernel
theorem d_M_takeFrom_45 : decode b_M_takeFrom 45 = .ok (.iaload, 1) := by decide +kernel
theorem d_M_takeFrom_46 : decode b_M_takeFrom 46 = .ok (.aload_n 0, 1) := by decide +kernel
theorem d_M_takeFrom_47 : decode b_M_takeFrom 47 = .ok (.getfield 29, 3) := by decide +kernel
theorem d_M_takeFrom_50 : decode b_M_takeFrom 50 = .ok (.iload_n 1, 1) := by decide +kernel
theorem d_M_takeFrom_51 : decode b_M_takeFrom 51 = .ok (.iaload, 1) := by decide +kernel
theorem d_M_takeFrom_52 : decode b_M_takeFrom 52 = .ok (.isub, 1) := by decide +kernel
theorem d_M_takeFrom_53 : decode b_M_takeFrom 53 = .ok (.iastore, 1) := by decide +kernel
theorem d_M_takeFrom_54 : decode b_M_takeFrom 54 = .ok (.iconst 0, 1) := by decide +kernel
theorem d_M_takeFrom_55 : decode b_M_takeFrom 55 = .ok (.istore_n 3, 1) := by decide +kernel
theorem d_M_takeFrom_56 : decode b_M_takeFrom 56 = .ok (.iload_n 3, 1) := by decide +kernel
theorem d_M_takeFrom_57 : decode b_M_takeFrom 57 = .ok (.aload_n 0, 1) := by decide +kernel
theorem d_M_takeFrom_58 : decode b_M_takeFrom 58 = .ok (.getfield 63, 3) := by decide +kernel
theorem d_M_takeFrom_61 : decode b_M_takeFrom 61 = .ok (.iload_n 1, 1) := by decide +kernel
theorem d_M_takeFrom_62 : decode b_M_takeFrom 62 = .ok (.iaload, 1) := by decide +kernel
theorem d_M_takeFrom_63 : decode b_M_takeFrom 63 = .ok (.if_icmp .ge 40, 3) := by decide +kernel
theorem d_M_takeFrom_66 : decode b_M_takeFrom 66 = .ok (.aload_n 0, 1) := by decide +kernel
theorem d_M_takeFrom_67 : decode b_M_takeFrom 67 = .ok (.getfield 60, 3) := by decide +kernel
theorem d_M_takeFrom_70 : decode b_M_takeFrom 70 = .ok (.iload_n 1, 1) := by decide +kernel
theorem d_M_takeFrom_71 : decode b_M_takeFrom 71 = .ok (.sipush 400, 3) := by decide +kernel
theorem d_M_takeFrom_74 : decode b_M_takeFrom 74 = .ok (.imul, 1) := by decide +kernel
theorem d_M_takeFrom_75 : decode b_M_takeFrom 75 = .ok (.iload_n 3, 1) := by decide +kernel
theorem d_M_takeFrom_76 : decode b_M_takeFrom 76 = .ok (.iadd, 1) := by decide +kernel
theorem d_M_takeFrom_77 : decode b_M_takeFrom 77 = .ok (.aload_n 0, 1) := by decide +kernel
theorem d_M_takeFrom_78 : decode b_M_takeFrom 78 = .ok (.getfield 60, 3) := by decide +kernel
theorem d_M_takeFrom_81 : decode b_M_takeFrom 81 = .ok (.iload_n 1, 1) := by decide +kernel
theorem d_M_takeFrom_82 : decode b_M_takeFrom 82 = .ok (.sipush 400, 3) := by decide +kernel
theorem d_M_takeFrom_85 : decode b_M_takeFrom 85 = .ok (.imul, 1) := by decide +kernel
theorem d_M_takeFrom_86 : decode b_M_takeFrom 86 = .ok (.iload_n 3, 1) := by decide +kernel
theorem d_M_takeFrom_87 : decode b_M_takeFrom 87 = .ok (.iadd, 1) := by decide +kernel
theorem d_M_takeFrom_88 : decode b_M_takeFrom 88 = .ok (.aload_n 0, 1) := by decide +kernel
theorem d_M_takeFrom_89 : decode b_M_takeFrom 89 = .ok (.getfield 29, 3) := by decide +kernel
theorem d_M_takeFrom_92 : decode b_M_takeFrom 92 = .ok (.iload_n 1, 1) := by decide +kernel
theorem d_M_takeFrom_93 : decode b_M_takeFrom 93 = .ok (.iaload, 1) := by decide +kernel
theorem d_M_takeFrom_94 : decode b_M_takeFrom 94 = .ok (.iadd, 1) := by decide +kernel
theorem d_M_takeFrom_95 : decode b_M_takeFrom 95 = .ok (.iaload, 1) := by decide +kernel
theorem d_M_takeFrom_96 : decode b_M_takeFrom 96 = .ok (.iastore, 1) := by decide +kernel
theorem d_M_takeFrom_97 : decode b_M_takeFrom 97 = .ok (.iinc 3 1, 3) := by decide +kernel
theorem d_M_takeFrom_100 : decode b_M_takeFrom 100 = .ok (.goto (-44), 3) := by decide +kernel
theorem d_M_takeFrom_103 : decode b_M_takeFrom 103 = .ok (.iload_n 2, 1) := by decide +kernel
theorem d_M_takeFrom_104 : decode b_M_takeFrom 104 = .ok (.ireturn, 1) := by decide +kernel
theorem d_M_fire_0 : decode b_M_fire 0 = .ok (.iconst 0, 1) := by decide +kernel
theorem d_M_fire_1 : decode b_M_fire 1 = .ok (.istore_n 2, 1) := by decide +kernel
theorem d_M_fire_2 : decode b_M_fire 2 = .ok (.iconst 0, 1) := by decide +kernel
theorem d_M_fire_3 : decode b_M_fire 3 = .ok (.istore_n 3, 1) := by decide +kernel
theorem d_M_fire_4 : decode b_M_fire 4 = .ok (.iload_n 3, 1) := by decide +kernel
theorem d_M_fire_5 : decode b_M_fire 5 = .ok (.aload_n 0, 1) := by decide +kernel
theorem d_M_fire_6 : decode b_M_fire 6 = .ok (.getfield 83, 3) := by decide +kernel
theorem d_M_fire_9 : decode b_M_fire 9 = .ok (.if_icmp .ge 27, 3) := by decide +kernel
theorem d_M_fire_12 : decode b_M_fire 12 = .ok (.aload_n 0, 1) := by decide +kernel
theorem d_M_fire_13 : decode b_M_fire 13 = .ok (.getfield 23, 3) := by decide +kernel
theorem d_M_fire_16 : decode b_M_fire 16 = .ok (.iload_n 3, 1) := by decide +kernel
theorem d_M_fire_17 : decode b_M_fire 17 = .ok (.iaload, 1) := by decide +kernel
theorem d_M_fire_18 : decode b_M_fire 18 = .ok (.iload_n 1, 1) := by decide +kernel
theorem d_M_fire_19 : decode b_M_fire 19 = .ok (.if_icmp .ne 11, 3) := by decide +kernel
theorem d_M_fire_22 : decode b_M_fire 22 = .ok (.iload_n 2, 1) := by decide +kernel
theorem d_M_fire_23 : decode b_M_fire 23 = .ok (.aload_n 0, 1) := by decide +kernel
theorem d_M_fire_24 : decode b_M_fire 24 = .ok (.iload_n 3, 1) := by decide +kernel
theorem d_M_fire_25 : decode b_M_fire 25 = .ok (.invokevirtual 129, 3) := by decide +kernel
theorem d_M_fire_28 : decode b_M_fire 28 = .ok (.iadd, 1) := by decide +kernel
theorem d_M_fire_29 : decode b_M_fire 29 = .ok (.istore_n 2, 1) := by decide +kernel
theorem d_M_fire_30 : decode b_M_fire 30 = .ok (.iinc 3 1, 3) := by decide +kernel
theorem d_M_fire_33 : decode b_M_fire 33 = .ok (.goto (-29), 3) := by decide +kernel
theorem d_M_fire_36 : decode b_M_fire 36 = .ok (.aload_n 0, 1) := by decide +kernel
theorem d_M_fire_37 : decode b_M_fire 37 = .ok (.getfield 13, 3) := by decide +kernel
theorem d_M_fire_40 : decode b_M_fire 40 = .ok (.iload_n 1, 1) := by decide +kernel
theorem d_M_fire_41 : decode b_M_fire 41 = .ok (.iaload, 1) := by decide +kernel
theorem d_M_fire_42 : decode b_M_fire 42 = .ok (.ifCond .ne 14, 3) := by decide +kernel
theorem d_M_fire_45 : decode b_M_fire 45 = .ok (.aload_n 0, 1) := by decide +kernel
theorem d_M_fire_46 : decode b_M_fire 46 = .ok (.getfield 17, 3) := by decide +kernel
theorem d_M_fire_49 : decode b_M_fire 49 = .ok (.iload_n 1, 1) := by decide +kernel
theorem d_M_fire_50 : decode b_M_fire 50 = .ok (.iaload, 1) := by decide +kernel
theorem d_M_fire_51 : decode b_M_fire 51 = .ok (.iload_n 2, 1) := by decide +kernel
theorem d_M_fire_52 : decode b_M_fire 52 = .ok (.iadd, 1) := by decide +kernel
theorem d_M_fire_53 : decode b_M_fire 53 = .ok (.goto 53, 3) := by decide +kernel
theorem d_M_fire_56 : decode b_M_fire 56 = .ok (.aload_n 0, 1) := by decide +kernel
theorem d_M_fire_57 : decode b_M_fire 57 = .ok (.getfield 13, 3) := by decide +kernel
theorem d_M_fire_60 : decode b_M_fire 60 = .ok (.iload_n 1, 1) := by decide +kernel
theorem d_M_fire_61 : decode b_M_fire 61 = .ok (.iaload, 1) := by decide +kernel
theorem d_M_fire_62 : decode b_M_fire 62 = .ok (.iconst 1, 1) := by decide +kernel
theorem d_M_fire_63 : decode b_M_fire 63 = .ok (.if_icmp .ne 14, 3) := by decide +kernel
theorem d_M_fire_66 : decode b_M_fire 66 = .ok (.aload_n 0, 1) := by decide +kernel
theorem d_M_fire_67 : decode b_M_fire 67 = .ok (.getfield 17, 3) := by decide +kernel
theorem d_M_fire_70 : decode b_M_fire 70 = .ok (.iload_n 1, 1) := by decide +kernel
theorem d_M_fire_71 : decode b_M_fire 71 = .ok (.iaload, 1) := by decide +kernel
theorem d_M_fire_72 : decode b_M_fire 72 = .ok (.iload_n 2, 1) := by decide +kernel
theorem d_M_fire_73 : decode b_M_fire 73 = .ok (.imul, 1) := by decide +kernel
theorem d_M_fire_74 : decode b_M_fire 74 = .ok (.goto 32, 3) := by decide +kernel
theorem d_M_fire_77 : decode b_M_fire 77 = .ok (.aload_n 0, 1) := by decide +kernel
theorem d_M_fire_78 : decode b_M_fire 78 = .ok (.getfield 13, 3) := by decide +kernel
theorem d_M_fire_81 : decode b_M_fire 81 = .ok (.iload_n 1, 1) := by decide +kernel
theorem d_M_fire_82 : decode b_M_fire 82 = .ok (.iaload, 1) := by decide +kernel
theorem d_M_fire_83 : decode b_M_fire 83 = .ok (.iconst 2, 1) := by decide +kernel
theorem d_M_fire_84 : decode b_M_fire 84 = .ok (.if_icmp .ne 14, 3) := by decide +kernel
theorem d_M_fire_87 : decode b_M_fire 87 = .ok (.aload_n 0, 1) := by decide +kernel
theorem d_M_fire_88 : decode b_M_fire 88 = .ok (.getfield 69, 3) := by decide +kernel
theorem d_M_fire_91 : decode b_M_fire 91 = .ok (.iload_n 1, 1) := by decide +kernel
theorem d_M_fire_92 : decode b_M_fire 92 = .ok (.iaload, 1) := by decide +kernel
theorem d_M_fire_93 : decode b_M_fire 93 = .ok (.iload_n 2, 1) := by decide +kernel
theorem d_M_fire_94 : decode b_M_fire 94 = .ok (.iadd, 1) := by decide +kernel
theorem d_M_fire_95 : decode b_M_fire 95 = .ok (.goto 11, 3) := by decide +kernel
theorem d_M_fire_98 : decode b_M_fire 98 = .ok (.iload_n 2, 1) := by decide +kernel
theorem d_M_fire_99 : decode b_M_fire 99 = .ok (.aload_n 0, 1) := by decide +kernel
theorem d_M_fire_100 : decode b_M_fire 100 = .ok (.getfield 69, 3) := by decide +kernel
theorem d_M_fire_103 : decode b_M_fire 103 = .ok (.iload_n 1, 1) := by decide +kernel
theorem d_M_fire_104 : decode b_M_fire 104 = .ok (.iaload, 1) := by decide +kernel
theorem d_M_fire_105 : decode b_M_fire 105 = .ok (.isub, 1) := by decide +kernel
theorem d_M_fire_106 : decode b_M_fire 106 = .ok (.istore_n 3, 1) := by decide +kernel
theorem d_M_fire_107 : decode b_M_fire 107 = .ok (.aload_n 0, 1) := by decide +kernel
theorem d_M_fire_108 : decode b_M_fire 108 = .ok (.getfield 69, 3) := by decide +kernel
theorem d_M_fire_111 : decode b_M_fire 111 = .ok (.iload_n 1, 1) := by decide +kernel
theorem d_M_fire_112 : decode b_M_fire 112 = .ok (.aload_n 0, 1) := by decide +kernel
theorem d_M_fire_113 : decode b_M_fire 113 = .ok (.getfield 13, 3) := by decide +kernel
theorem d_M_fire_116 : decode b_M_fire 116 = .ok (.iload_n 1, 1) := by decide +kernel
theorem d_M_fire_117 : decode b_M_fire 117 = .ok (.iaload, 1) := by decide +kernel
theorem d_M_fire_118 : decode b_M_fire 118 = .ok (.iconst 2, 1) := by decide +kernel
theorem d_M_fire_119 : decode b_M_fire 119 = .ok (.if_icmp .ne 14, 3) := by decide +kernel
theorem d_M_fire_122 : decode b_M_fire 122 = .ok (.aload_n 0, 1) := by decide +kernel
theorem d_M_fire_123 : decode b_M_fire 123 = .ok (.getfield 69, 3) := by decide +kernel
theorem d_M_fire_126 : decode b_M_fire 126 = .ok (.iload_n 1, 1) := by decide +kernel
theorem d_M_fire_127 : decode b_M_fire 127 = .ok (.iaload, 1) := by decide +kernel
theorem d_M_fire_128 : decode b_M_fire 128 = .ok (.iload_n 2, 1) := by decide +kernel
theorem d_M_fire_129 : decode b_M_fire 129 = .ok (.iadd, 1) := by decide +kernel
theorem d_M_fire_130 : decode b_M_fire 130 = .ok (.goto 4, 3) := by decide +kernel
theorem d_M_fire_133 : decode b_M_fire 133 = .ok (.iload_n 2, 1) := by decide +kernel
theorem d_M_fire_134 : decode b_M_fire 134 = .ok (.iastore, 1) := by decide +kernel
theorem d_M_fire_135 : decode b_M_fire 135 = .ok (.aload_n 0, 1) := by decide +kernel
theorem d_M_fire_136 : decode b_M_fire 136 = .ok (.getfield 66, 3) := by decide +kernel
theorem d_M_fire_139 : decode b_M_fire 139 = .ok (.iload_n 1, 1) := by decide +kernel
theorem d_M_fire_140 : decode b_M_fire 140 = .ok (.iload_n 3, 1) := by decide +kernel
theorem d_M_fire_141 : decode b_M_fire 141 = .ok (.iastore, 1) := by decide +kernel
theorem d_M_fire_142 : decode b_M_fire 142 = .ok (.iconst 0, 1) := by decide +kernel
theorem d_M_fire_143 : decode b_M_fire 143 = .ok (.istore 4, 2) := by decide +kernel
theorem d_M_fire_145 : decode b_M_fire 145 = .ok (.iload 4, 2) := by decide +kernel
theorem d_M_fire_147 : decode b_M_fire 147 = .ok (.aload_n 0, 1) := by decide +kernel
theorem d_M_fire_148 : decode b_M_fire 148 = .ok (.getfield 83, 3) := by decide +kernel
theorem d_M_fire_151 : decode b_M_fire 151 = .ok (.if_icmp .ge 87, 3) := by decide +kernel
theorem d_M_fire_154 : decode b_M_fire 154 = .ok (.aload_n 0, 1) := by decide +kernel
theorem d_M_fire_155 : decode b_M_fire 155 = .ok (.getfield 20, 3) := by decide +kernel
theorem d_M_fire_158 : decode b_M_fire 158 = .ok (.iload 4, 2) := by decide +kernel
theorem d_M_fire_160 : decode b_M_fire 160 = .ok (.iaload, 1) := by decide +kernel
theorem d_M_fire_161 : decode b_M_fire 161 = .ok (.iload_n 1, 1) := by decide +kernel
theorem d_M_fire_162 : decode b_M_fire 162 = .ok (.if_icmp .eq 6, 3) := by decide +kernel
theorem d_M_fire_165 : decode b_M_fire 165 = .ok (.goto 67, 3) := by decide +kernel
theorem d_M_fire_168 : decode b_M_fire 168 = .ok (.iconst 0, 1) := by decide +kernel
theorem d_M_fire_169 : decode b_M_fire 169 = .ok (.istore 5, 2) := by decide +kernel
theorem d_M_fire_171 : decode b_M_fire 171 = .ok (.iload 5, 2) := by decide +kernel
theorem d_M_fire_173 : decode b_M_fire 173 = .ok (.aload_n 0, 1) := by decide +kernel
theorem d_M_fire_174 : decode b_M_fire 174 = .ok (.getfield 26, 3) := by decide +kernel
theorem d_M_fire_177 : decode b_M_fire 177 = .ok (.iload 4, 2) := by decide +kernel
theorem d_M_fire_179 : decode b_M_fire 179 = .ok (.iaload, 1) := by decide +kernel
theorem d_M_fire_180 : decode b_M_fire 180 = .ok (.if_icmp .ge 35, 3) := by decide +kernel
theorem d_M_fire_183 : decode b_M_fire 183 = .ok (.aload_n 0, 1) := by decide +kernel
theorem d_M_fire_184 : decode b_M_fire 184 = .ok (.getfield 60, 3) := by decide +kernel
theorem d_M_fire_187 : decode b_M_fire 187 = .ok (.iload 4, 2) := by decide +kernel
theorem d_M_fire_189 : decode b_M_fire 189 = .ok (.sipush 400, 3) := by decide +kernel
theorem d_M_fire_192 : decode b_M_fire 192 = .ok (.imul, 1) := by decide +kernel
theorem d_M_fire_193 : decode b_M_fire 193 = .ok (.aload_n 0, 1) := by decide +kernel
theorem d_M_fire_194 : decode b_M_fire 194 = .ok (.getfield 63, 3) := by decide +kernel
theorem d_M_fire_197 : decode b_M_fire 197 = .ok (.iload 4, 2) := by decide +kernel
theorem d_M_fire_199 : decode b_M_fire 199 = .ok (.iaload, 1) := by decide +kernel
theorem d_M_fire_200 : decode b_M_fire 200 = .ok (.iadd, 1) := by decide +kernel
theorem d_M_fire_201 : decode b_M_fire 201 = .ok (.iload 5, 2) := by decide +kernel
theorem d_M_fire_203 : decode b_M_fire 203 = .ok (.iadd, 1) := by decide +kernel
theorem d_M_fire_204 : decode b_M_fire 204 = .ok (.iload_n 3, 1) := by decide +kernel
theorem d_M_fire_205 : decode b_M_fire 205 = .ok (.iload 5, 2) := by decide +kernel
theorem d_M_fire_207 : decode b_M_fire 207 = .ok (.iadd, 1) := by decide +kernel
theorem d_M_fire_208 : decode b_M_fire 208 = .ok (.iastore, 1) := by decide +kernel
theorem d_M_fire_209 : decode b_M_fire 209 = .ok (.iinc 5 1, 3) := by decide +kernel
theorem d_M_fire_212 : decode b_M_fire 212 = .ok (.goto (-41), 3) := by decide +kernel
theorem d_M_fire_215 : decode b_M_fire 215 = .ok (.aload_n 0, 1) := by decide +kernel
theorem d_M_fire_216 : decode b_M_fire 216 = .ok (.getfield 63, 3) := by decide +kernel
theorem d_M_fire_219 : decode b_M_fire 219 = .ok (.iload 4, 2) := by decide +kernel
theorem d_M_fire_221 : decode b_M_fire 221 = .ok (.dup2, 1) := by decide +kernel
theorem d_M_fire_222 : decode b_M_fire 222 = .ok (.iaload, 1) := by decide +kernel
theorem d_M_fire_223 : decode b_M_fire 223 = .ok (.aload_n 0, 1) := by decide +kernel
theorem d_M_fire_224 : decode b_M_fire 224 = .ok (.getfield 26, 3) := by decide +kernel
theorem d_M_fire_227 : decode b_M_fire 227 = .ok (.iload 4, 2) := by decide +kernel
theorem d_M_fire_229 : decode b_M_fire 229 = .ok (.iaload, 1) := by decide +kernel
theorem d_M_fire_230 : decode b_M_fire 230 = .ok (.iadd, 1) := by decide +kernel
theorem d_M_fire_231 : decode b_M_fire 231 = .ok (.iastore, 1) := by decide +kernel
theorem d_M_fire_232 : decode b_M_fire 232 = .ok (.iinc 4 1, 3) := by decide +kernel
theorem d_M_fire_235 : decode b_M_fire 235 = .ok (.goto (-90), 3) := by decide +kernel
theorem d_M_fire_238 : decode b_M_fire 238 = .ok (.aload_n 0, 1) := by decide +kernel
theorem d_M_fire_239 : decode b_M_fire 239 = .ok (.dup, 1) := by decide +kernel
theorem d_M_fire_240 : decode b_M_fire 240 = .ok (.getfield 118, 3) := by decide +kernel
theorem d_M_fire_243 : decode b_M_fire 243 = .ok (.iconst 1, 1) := by decide +kernel
theorem d_M_fire_244 : decode b_M_fire 244 = .ok (.iadd, 1) := by decide +kernel
theorem d_M_fire_245 : decode b_M_fire 245 = .ok (.putfield 118, 3) := by decide +kernel
theorem d_M_fire_248 : decode b_M_fire 248 = .ok (.return_, 1) := by decide +kernel
theorem d_M_run_0 : decode b_M_run 0 = .ok (.iload_n 1, 1) := by decide +kernel
theorem d_M_run_1 : decode b_M_run 1 = .ok (.iconst 1, 1) := by decide +kernel
theorem d_M_run_2 : decode b_M_run 2 = .ok (.if_icmp .lt 9, 3) := by decide +kernel
theorem d_M_run_5 : decode b_M_run 5 = .ok (.iload_n 1, 1) := by decide +kernel
theorem d_M_run_6 : decode b_M_run 6 = .ok (.bipush 8, 2) := by decide +kernel
theorem d_M_run_8 : decode b_M_run 8 = .ok (.if_icmp .le 5, 3) := by decide +kernel
theorem d_M_run_11 : decode b_M_run 11 = .ok (.iconst (-1), 1) := by decide +kernel
theorem d_M_run_12 : decode b_M_run 12 = .ok (.ireturn, 1) := by decide +kernel
theorem d_M_run_13 : decode b_M_run 13 = .ok (.aload_n 0, 1) := by decide +kernel
theorem d_M_run_14 : decode b_M_run 14 = .ok (.getfield 75, 3) := by decide +kernel
theorem d_M_run_17 : decode b_M_run 17 = .ok (.ifCond .ne 6, 3) := by decide +kernel
theorem d_M_run_20 : decode b_M_run 20 = .ok (.bipush (-4), 2) := by decide +kernel
theorem d_M_run_22 : decode b_M_run 22 = .ok (.ireturn, 1) := by decide +kernel
theorem d_M_run_23 : decode b_M_run 23 = .ok (.iconst 0, 1) := by decide +kernel
theorem d_M_run_24 : decode b_M_run 24 = .ok (.istore_n 2, 1) := by decide +kernel
theorem d_M_run_25 : decode b_M_run 25 = .ok (.iload_n 2, 1) := by decide +kernel
theorem d_M_run_26 : decode b_M_run 26 = .ok (.iload_n 1, 1) := by decide +kernel
theorem d_M_run_27 : decode b_M_run 27 = .ok (.if_icmp .ge 35, 3) := by decide +kernel
theorem d_M_run_30 : decode b_M_run 30 = .ok (.iconst 0, 1) := by decide +kernel
theorem d_M_run_31 : decode b_M_run 31 = .ok (.istore_n 3, 1) := by decide +kernel
theorem d_M_run_32 : decode b_M_run 32 = .ok (.iload_n 3, 1) := by decide +kernel
theorem d_M_run_33 : decode b_M_run 33 = .ok (.aload_n 0, 1) := by decide +kernel
theorem d_M_run_34 : decode b_M_run 34 = .ok (.getfield 108, 3) := by decide +kernel
theorem d_M_run_37 : decode b_M_run 37 = .ok (.if_icmp .ge 19, 3) := by decide +kernel
theorem d_M_run_40 : decode b_M_run 40 = .ok (.aload_n 0, 1) := by decide +kernel
theorem d_M_run_41 : decode b_M_run 41 = .ok (.aload_n 0, 1) := by decide +kernel
theorem d_M_run_42 : decode b_M_run 42 = .ok (.getfield 51, 3) := by decide +kernel
theorem d_M_run_45 : decode b_M_run 45 = .ok (.iload_n 3, 1) := by decide +kernel
theorem d_M_run_46 : decode b_M_run 46 = .ok (.iaload, 1) := by decide +kernel
theorem d_M_run_47 : decode b_M_run 47 = .ok (.invokevirtual 132, 3) := by decide +kernel
theorem d_M_run_50 : decode b_M_run 50 = .ok (.iinc 3 1, 3) := by decide +kernel
theorem d_M_run_53 : decode b_M_run 53 = .ok (.goto (-21), 3) := by decide +kernel
theorem d_M_run_56 : decode b_M_run 56 = .ok (.iinc 2 1, 3) := by decide +kernel
theorem d_M_run_59 : decode b_M_run 59 = .ok (.goto (-34), 3) := by decide +kernel
theorem d_M_run_62 : decode b_M_run 62 = .ok (.iload_n 1, 1) := by decide +kernel
theorem d_M_run_63 : decode b_M_run 63 = .ok (.aload_n 0, 1) := by decide +kernel
theorem d_M_run_64 : decode b_M_run 64 = .ok (.getfield 108, 3) := by decide +kernel
theorem d_M_run_67 : decode b_M_run 67 = .ok (.imul, 1) := by decide +kernel
theorem d_M_run_68 : decode b_M_run 68 = .ok (.ireturn, 1) := by decide +kernel
theorem d_M_repetitions_0 : decode b_M_repetitions 0 = .ok (.aload_n 0, 1) := by decide +kernel
theorem d_M_repetitions_1 : decode b_M_repetitions 1 = .ok (.iload_n 1, 1) := by decide +kernel
theorem d_M_repetitions_2 : decode b_M_repetitions 2 = .ok (.invokevirtual 79, 3) := by decide +kernel
theorem d_M_repetitions_5 : decode b_M_repetitions 5 = .ok (.ifCond .ne 5, 3) := by decide +kernel
theorem d_M_repetitions_8 : decode b_M_repetitions 8 = .ok (.iconst (-1), 1) := by decide +kernel
theorem d_M_repetitions_9 : decode b_M_repetitions 9 = .ok (.ireturn, 1) := by decide +kernel
theorem d_M_repetitions_10 : decode b_M_repetitions 10 = .ok (.aload_n 0, 1) := by decide +kernel
theorem d_M_repetitions_11 : decode b_M_repetitions 11 = .ok (.getfield 75, 3) := by decide +kernel
theorem d_M_repetitions_14 : decode b_M_repetitions 14 = .ok (.ifCond .eq 12, 3) := by decide +kernel
theorem d_M_repetitions_17 : decode b_M_repetitions 17 = .ok (.aload_n 0, 1) := by decide +kernel
theorem d_M_repetitions_18 : decode b_M_repetitions 18 = .ok (.getfield 45, 3) := by decide +kernel
theorem d_M_repetitions_21 : decode b_M_repetitions 21 = .ok (.iload_n 1, 1) := by decide +kernel
theorem d_M_repetitions_22 : decode b_M_repetitions 22 = .ok (.iaload, 1) := by decide +kernel
theorem d_M_repetitions_23 : decode b_M_repetitions 23 = .ok (.goto 5, 3) := by decide +kernel
theorem d_M_repetitions_26 : decode b_M_repetitions 26 = .ok (.bipush (-4), 2) := by decide +kernel
theorem d_M_repetitions_28 : decode b_M_repetitions 28 = .ok (.ireturn, 1) := by decide +kernel
theorem d_M_schedule_0 : decode b_M_schedule 0 = .ok (.aload_n 0, 1) := by decide +kernel
theorem d_M_schedule_1 : decode b_M_schedule 1 = .ok (.getfield 75, 3) := by decide +kernel
theorem d_M_schedule_4 : decode b_M_schedule 4 = .ok (.ifCond .ne 6, 3) := by decide +kernel
theorem d_M_schedule_7 : decode b_M_schedule 7 = .ok (.bipush (-4), 2) := by decide +kernel
theorem d_M_schedule_9 : decode b_M_schedule 9 = .ok (.ireturn, 1) := by decide +kernel
theorem d_M_schedule_10 : decode b_M_schedule 10 = .ok (.iload_n 1, 1) := by decide +kernel
theorem d_M_schedule_11 : decode b_M_schedule 11 = .ok (.ifCond .lt 11, 3) := by decide +kernel
theorem d_M_schedule_14 : decode b_M_schedule 14 = .ok (.iload_n 1, 1) := by decide +kernel
theorem d_M_schedule_15 : decode b_M_schedule 15 = .ok (.aload_n 0, 1) := by decide +kernel
theorem d_M_schedule_16 : decode b_M_schedule 16 = .ok (.getfield 108, 3) := by decide +kernel
theorem d_M_schedule_19 : decode b_M_schedule 19 = .ok (.if_icmp .lt 7, 3) := by decide +kernel
theorem d_M_schedule_22 : decode b_M_schedule 22 = .ok (.iconst (-1), 1) := by decide +kernel
theorem d_M_schedule_23 : decode b_M_schedule 23 = .ok (.goto 9, 3) := by decide +kernel
theorem d_M_schedule_26 : decode b_M_schedule 26 = .ok (.aload_n 0, 1) := by decide +kernel
theorem d_M_schedule_27 : decode b_M_schedule 27 = .ok (.getfield 51, 3) := by decide +kernel
theorem d_M_schedule_30 : decode b_M_schedule 30 = .ok (.iload_n 1, 1) := by decide +kernel
theorem d_M_schedule_31 : decode b_M_schedule 31 = .ok (.iaload, 1) := by decide +kernel
theorem d_M_schedule_32 : decode b_M_schedule 32 = .ok (.ireturn, 1) := by decide +kernel
theorem d_M_peak_0 : decode b_M_peak 0 = .ok (.iload_n 1, 1) := by decide +kernel
theorem d_M_peak_1 : decode b_M_peak 1 = .ok (.ifCond .lt 11, 3) := by decide +kernel
theorem d_M_peak_4 : decode b_M_peak 4 = .ok (.iload_n 1, 1) := by decide +kernel
theorem d_M_peak_5 : decode b_M_peak 5 = .ok (.aload_n 0, 1) := by decide +kernel
theorem d_M_peak_6 : decode b_M_peak 6 = .ok (.getfield 83, 3) := by decide +kernel
theorem d_M_peak_9 : decode b_M_peak 9 = .ok (.if_icmp .lt 5, 3) := by decide +kernel
theorem d_M_peak_12 : decode b_M_peak 12 = .ok (.iconst (-1), 1) := by decide +kernel
theorem d_M_peak_13 : decode b_M_peak 13 = .ok (.ireturn, 1) := by decide +kernel
theorem d_M_peak_14 : decode b_M_peak 14 = .ok (.aload_n 0, 1) := by decide +kernel
theorem d_M_peak_15 : decode b_M_peak 15 = .ok (.getfield 75, 3) := by decide +kernel
theorem d_M_peak_18 : decode b_M_peak 18 = .ok (.ifCond .eq 12, 3) := by decide +kernel
theorem d_M_peak_21 : decode b_M_peak 21 = .ok (.aload_n 0, 1) := by decide +kernel
theorem d_M_peak_22 : decode b_M_peak 22 = .ok (.getfield 54, 3) := by decide +kernel
theorem d_M_peak_25 : decode b_M_peak 25 = .ok (.iload_n 1, 1) := by decide +kernel
theorem d_M_peak_26 : decode b_M_peak 26 = .ok (.iaload, 1) := by decide +kernel
theorem d_M_peak_27 : decode b_M_peak 27 = .ok (.goto 5, 3) := by decide +kernel
theorem d_M_peak_30 : decode b_M_peak 30 = .ok (.bipush (-4), 2) := by decide +kernel
theorem d_M_peak_32 : decode b_M_peak 32 = .ok (.ireturn, 1) := by decide +kernel
theorem d_M_cut_0 : decode b_M_cut 0 = .ok (.lconst 0, 1) := by decide +kernel
theorem d_M_cut_1 : decode b_M_cut 1 = .ok (.lstore 4, 2) := by decide +kernel
theorem d_M_cut_3 : decode b_M_cut 3 = .ok (.iload_n 1, 1) := by decide +kernel
theorem d_M_cut_4 : decode b_M_cut 4 = .ok (.istore 6, 2) := by decide +kernel
theorem d_M_cut_6 : decode b_M_cut 6 = .ok (.iload 6, 2) := by decide +kernel
theorem d_M_cut_8 : decode b_M_cut 8 = .ok (.iload_n 3, 1) := by decide +kernel
theorem d_M_cut_9 : decode b_M_cut 9 = .ok (.if_icmp .gt 34, 3) := by decide +kernel
theorem d_M_cut_12 : decode b_M_cut 12 = .ok (.aload_n 0, 1) := by decide +kernel
theorem d_M_cut_13 : decode b_M_cut 13 = .ok (.getfield 7, 3) := by decide +kernel
theorem d_M_cut_16 : decode b_M_cut 16 = .ok (.iload 6, 2) := by decide +kernel
theorem d_M_cut_18 : decode b_M_cut 18 = .ok (.baload, 1) := by decide +kernel
theorem d_M_cut_19 : decode b_M_cut 19 = .ok (.ifCond .eq 18, 3) := by decide +kernel
theorem d_M_cut_22 : decode b_M_cut 22 = .ok (.aload_n 0, 1) := by decide +kernel
theorem d_M_cut_23 : decode b_M_cut 23 = .ok (.getfield 45, 3) := by decide +kernel
theorem d_M_cut_26 : decode b_M_cut 26 = .ok (.iload 6, 2) := by decide +kernel
theorem d_M_cut_28 : decode b_M_cut 28 = .ok (.iaload, 1) := by decide +kernel
theorem d_M_cut_29 : decode b_M_cut 29 = .ok (.i2l, 1) := by decide +kernel
theorem d_M_cut_30 : decode b_M_cut 30 = .ok (.lload 4, 2) := by decide +kernel
theorem d_M_cut_32 : decode b_M_cut 32 = .ok (.invokestatic 87, 3) := by decide +kernel
theorem d_M_cut_35 : decode b_M_cut 35 = .ok (.lstore 4, 2) := by decide +kernel
theorem d_M_cut_37 : decode b_M_cut 37 = .ok (.iinc 6 1, 3) := by decide +kernel
theorem d_M_cut_40 : decode b_M_cut 40 = .ok (.goto (-34), 3) := by decide +kernel
theorem d_M_cut_43 : decode b_M_cut 43 = .ok (.iconst 0, 1) := by decide +kernel
theorem d_M_cut_44 : decode b_M_cut 44 = .ok (.istore 6, 2) := by decide +kernel
theorem d_M_cut_46 : decode b_M_cut 46 = .ok (.iconst 0, 1) := by decide +kernel
theorem d_M_cut_47 : decode b_M_cut 47 = .ok (.istore 7, 2) := by decide +kernel
theorem d_M_cut_49 : decode b_M_cut 49 = .ok (.iload 7, 2) := by decide +kernel
theorem d_M_cut_51 : decode b_M_cut 51 = .ok (.aload_n 0, 1) := by decide +kernel
theorem d_M_cut_52 : decode b_M_cut 52 = .ok (.getfield 83, 3) := by decide +kernel
theorem d_M_cut_55 : decode b_M_cut 55 = .ok (.if_icmp .ge 82, 3) := by decide +kernel
theorem d_M_cut_58 : decode b_M_cut 58 = .ok (.aload_n 0, 1) := by decide +kernel
theorem d_M_cut_59 : decode b_M_cut 59 = .ok (.getfield 20, 3) := by decide +kernel
theorem d_M_cut_62 : decode b_M_cut 62 = .ok (.iload 7, 2) := by decide +kernel
theorem d_M_cut_64 : decode b_M_cut 64 = .ok (.iaload, 1) := by decide +kernel
theorem d_M_cut_65 : decode b_M_cut 65 = .ok (.iload_n 1, 1) := by decide +kernel
theorem d_M_cut_66 : decode b_M_cut 66 = .ok (.if_icmp .lt 65, 3) := by decide +kernel
theorem d_M_cut_69 : decode b_M_cut 69 = .ok (.aload_n 0, 1) := by decide +kernel
theorem d_M_cut_70 : decode b_M_cut 70 = .ok (.getfield 20, 3) := by decide +kernel
theorem d_M_cut_73 : decode b_M_cut 73 = .ok (.iload 7, 2) := by decide +kernel
theorem d_M_cut_75 : decode b_M_cut 75 = .ok (.iaload, 1) := by decide +kernel
theorem d_M_cut_76 : decode b_M_cut 76 = .ok (.iload_n 2, 1) := by decide +kernel
theorem d_M_cut_77 : decode b_M_cut 77 = .ok (.if_icmp .gt 54, 3) := by decide +kernel
theorem d_M_cut_80 : decode b_M_cut 80 = .ok (.aload_n 0, 1) := by decide +kernel
theorem d_M_cut_81 : decode b_M_cut 81 = .ok (.getfield 23, 3) := by decide +kernel
theorem d_M_cut_84 : decode b_M_cut 84 = .ok (.iload 7, 2) := by decide +kernel
theorem d_M_cut_86 : decode b_M_cut 86 = .ok (.iaload, 1) := by decide +kernel
theorem d_M_cut_87 : decode b_M_cut 87 = .ok (.iload_n 2, 1) := by decide +kernel
theorem d_M_cut_88 : decode b_M_cut 88 = .ok (.if_icmp .le 43, 3) := by decide +kernel
theorem d_M_cut_91 : decode b_M_cut 91 = .ok (.aload_n 0, 1) := by decide +kernel
theorem d_M_cut_92 : decode b_M_cut 92 = .ok (.getfield 23, 3) := by decide +kernel
theorem d_M_cut_95 : decode b_M_cut 95 = .ok (.iload 7, 2) := by decide +kernel
theorem d_M_cut_97 : decode b_M_cut 97 = .ok (.iaload, 1) := by decide +kernel
theorem d_M_cut_98 : decode b_M_cut 98 = .ok (.iload_n 3, 1) := by decide +kernel
theorem d_M_cut_99 : decode b_M_cut 99 = .ok (.if_icmp .gt 32, 3) := by decide +kernel
theorem d_M_cut_102 : decode b_M_cut 102 = .ok (.iload 6, 2) := by decide +kernel
theorem d_M_cut_104 : decode b_M_cut 104 = .ok (.aload_n 0, 1) := by decide +kernel
theorem d_M_cut_105 : decode b_M_cut 105 = .ok (.getfield 26, 3) := by decide +kernel
theorem d_M_cut_108 : decode b_M_cut 108 = .ok (.iload 7, 2) := by decide +kernel
theorem d_M_cut_110 : decode b_M_cut 110 = .ok (.iaload, 1) := by decide +kernel
theorem d_M_cut_111 : decode b_M_cut 111 = .ok (.aload_n 0, 1) := by decide +kernel
theorem d_M_cut_112 : decode b_M_cut 112 = .ok (.getfield 45, 3) := by decide +kernel
theorem d_M_cut_115 : decode b_M_cut 115 = .ok (.aload_n 0, 1) := by decide +kernel
theorem d_M_cut_116 : decode b_M_cut 116 = .ok (.getfield 20, 3) := by decide +kernel
theorem d_M_cut_119 : decode b_M_cut 119 = .ok (.iload 7, 2) := by decide +kernel
theorem d_M_cut_121 : decode b_M_cut 121 = .ok (.iaload, 1) := by decide +kernel
theorem d_M_cut_122 : decode b_M_cut 122 = .ok (.iaload, 1) := by decide +kernel
theorem d_M_cut_123 : decode b_M_cut 123 = .ok (.imul, 1) := by decide +kernel
theorem d_M_cut_124 : decode b_M_cut 124 = .ok (.lload 4, 2) := by decide +kernel
theorem d_M_cut_126 : decode b_M_cut 126 = .ok (.l2i, 1) := by decide +kernel
theorem d_M_cut_127 : decode b_M_cut 127 = .ok (.idiv, 1) := by decide +kernel
theorem d_M_cut_128 : decode b_M_cut 128 = .ok (.iadd, 1) := by decide +kernel
theorem d_M_cut_129 : decode b_M_cut 129 = .ok (.istore 6, 2) := by decide +kernel
theorem d_M_cut_131 : decode b_M_cut 131 = .ok (.iinc 7 1, 3) := by decide +kernel
theorem d_M_cut_134 : decode b_M_cut 134 = .ok (.goto (-85), 3) := by decide +kernel
theorem d_M_cut_137 : decode b_M_cut 137 = .ok (.iload 6, 2) := by decide +kernel
theorem d_M_cut_139 : decode b_M_cut 139 = .ok (.ireturn, 1) := by decide +kernel
theorem d_M_nested_0 : decode b_M_nested 0 = .ok (.aload_n 0, 1) := by decide +kernel
theorem d_M_nested_1 : decode b_M_nested 1 = .ok (.getfield 75, 3) := by decide +kernel
theorem d_M_nested_4 : decode b_M_nested 4 = .ok (.ifCond .ne 6, 3) := by decide +kernel
theorem d_M_nested_7 : decode b_M_nested 7 = .ok (.bipush (-4), 2) := by decide +kernel
theorem d_M_nested_9 : decode b_M_nested 9 = .ok (.ireturn, 1) := by decide +kernel
theorem d_M_nested_10 : decode b_M_nested 10 = .ok (.iconst 0, 1) := by decide +kernel
theorem d_M_nested_11 : decode b_M_nested 11 = .ok (.istore_n 1, 1) := by decide +kernel
theorem d_M_nested_12 : decode b_M_nested 12 = .ok (.iload_n 1, 1) := by decide +kernel
theorem d_M_nested_13 : decode b_M_nested 13 = .ok (.aload_n 0, 1) := by decide +kernel
theorem d_M_nested_14 : decode b_M_nested 14 = .ok (.getfield 83, 3) := by decide +kernel
theorem d_M_nested_17 : decode b_M_nested 17 = .ok (.if_icmp .ge 51, 3) := by decide +kernel
theorem d_M_nested_20 : decode b_M_nested 20 = .ok (.aload_n 0, 1) := by decide +kernel
theorem d_M_nested_21 : decode b_M_nested 21 = .ok (.getfield 20, 3) := by decide +kernel
theorem d_M_nested_24 : decode b_M_nested 24 = .ok (.iload_n 1, 1) := by decide +kernel
theorem d_M_nested_25 : decode b_M_nested 25 = .ok (.iaload, 1) := by decide +kernel
theorem d_M_nested_26 : decode b_M_nested 26 = .ok (.aload_n 0, 1) := by decide +kernel
theorem d_M_nested_27 : decode b_M_nested 27 = .ok (.getfield 23, 3) := by decide +kernel
theorem d_M_nested_30 : decode b_M_nested 30 = .ok (.iload_n 1, 1) := by decide +kernel
theorem d_M_nested_31 : decode b_M_nested 31 = .ok (.iaload, 1) := by decide +kernel
theorem d_M_nested_32 : decode b_M_nested 32 = .ok (.if_icmp .eq 30, 3) := by decide +kernel
theorem d_M_nested_35 : decode b_M_nested 35 = .ok (.aload_n 0, 1) := by decide +kernel
theorem d_M_nested_36 : decode b_M_nested 36 = .ok (.getfield 20, 3) := by decide +kernel
theorem d_M_nested_39 : decode b_M_nested 39 = .ok (.iload_n 1, 1) := by decide +kernel
theorem d_M_nested_40 : decode b_M_nested 40 = .ok (.iaload, 1) := by decide +kernel
theorem d_M_nested_41 : decode b_M_nested 41 = .ok (.aload_n 0, 1) := by decide +kernel
theorem d_M_nested_42 : decode b_M_nested 42 = .ok (.getfield 23, 3) := by decide +kernel
theorem d_M_nested_45 : decode b_M_nested 45 = .ok (.iload_n 1, 1) := by decide +kernel
theorem d_M_nested_46 : decode b_M_nested 46 = .ok (.iaload, 1) := by decide +kernel
theorem d_M_nested_47 : decode b_M_nested 47 = .ok (.if_icmp .gt 12, 3) := by decide +kernel
theorem d_M_nested_50 : decode b_M_nested 50 = .ok (.aload_n 0, 1) := by decide +kernel
theorem d_M_nested_51 : decode b_M_nested 51 = .ok (.getfield 32, 3) := by decide +kernel
theorem d_M_nested_54 : decode b_M_nested 54 = .ok (.iload_n 1, 1) := by decide +kernel
theorem d_M_nested_55 : decode b_M_nested 55 = .ok (.iaload, 1) := by decide +kernel
theorem d_M_nested_56 : decode b_M_nested 56 = .ok (.ifCond .le 6, 3) := by decide +kernel
theorem d_M_nested_59 : decode b_M_nested 59 = .ok (.bipush (-4), 2) := by decide +kernel
theorem d_M_nested_61 : decode b_M_nested 61 = .ok (.ireturn, 1) := by decide +kernel
theorem d_M_nested_62 : decode b_M_nested 62 = .ok (.iinc 1 1, 3) := by decide +kernel
theorem d_M_nested_65 : decode b_M_nested 65 = .ok (.goto (-53), 3) := by decide +kernel
theorem d_M_nested_68 : decode b_M_nested 68 = .ok (.iconst 0, 1) := by decide +kernel
theorem d_M_nested_69 : decode b_M_nested 69 = .ok (.istore_n 1, 1) := by decide +kernel
theorem d_M_nested_70 : decode b_M_nested 70 = .ok (.bipush 7, 2) := by decide +kernel
theorem d_M_nested_72 : decode b_M_nested 72 = .ok (.istore_n 2, 1) := by decide +kernel
theorem d_M_nested_73 : decode b_M_nested 73 = .ok (.aload_n 0, 1) := by decide +kernel
theorem d_M_nested_74 : decode b_M_nested 74 = .ok (.getfield 7, 3) := by decide +kernel
theorem d_M_nested_77 : decode b_M_nested 77 = .ok (.iload_n 1, 1) := by decide +kernel
theorem d_M_nested_78 : decode b_M_nested 78 = .ok (.baload, 1) := by decide +kernel
theorem d_M_nested_79 : decode b_M_nested 79 = .ok (.ifCond .ne 9, 3) := by decide +kernel
theorem d_M_nested_82 : decode b_M_nested 82 = .ok (.iinc 1 1, 3) := by decide +kernel
theorem d_M_nested_85 : decode b_M_nested 85 = .ok (.goto (-12), 3) := by decide +kernel
theorem d_M_nested_88 : decode b_M_nested 88 = .ok (.aload_n 0, 1) := by decide +kernel
theorem d_M_nested_89 : decode b_M_nested 89 = .ok (.getfield 7, 3) := by decide +kernel
theorem d_M_nested_92 : decode b_M_nested 92 = .ok (.iload_n 2, 1) := by decide +kernel
theorem d_M_nested_93 : decode b_M_nested 93 = .ok (.baload, 1) := by decide +kernel
theorem d_M_nested_94 : decode b_M_nested 94 = .ok (.ifCond .ne 9, 3) := by decide +kernel
theorem d_M_nested_97 : decode b_M_nested 97 = .ok (.iinc 2 (-1), 3) := by decide +kernel
theorem d_M_nested_100 : decode b_M_nested 100 = .ok (.goto (-12), 3) := by decide +kernel
theorem d_M_nested_103 : decode b_M_nested 103 = .ok (.iconst 1, 1) := by decide +kernel
theorem d_M_nested_104 : decode b_M_nested 104 = .ok (.istore_n 3, 1) := by decide +kernel
theorem d_M_nested_105 : decode b_M_nested 105 = .ok (.iload_n 3, 1) := by decide +kernel
theorem d_M_nested_106 : decode b_M_nested 106 = .ok (.iload_n 2, 1) := by decide +kernel
theorem d_M_nested_107 : decode b_M_nested 107 = .ok (.iload_n 1, 1) := by decide +kernel
theorem d_M_nested_108 : decode b_M_nested 108 = .ok (.isub, 1) := by decide +kernel
theorem d_M_nested_109 : decode b_M_nested 109 = .ok (.iconst 1, 1) := by decide +kernel
theorem d_M_nested_110 : decode b_M_nested 110 = .ok (.iadd, 1) := by decide +kernel
theorem d_M_nested_111 : decode b_M_nested 111 = .ok (.if_icmp .gt 191, 3) := by decide +kernel
theorem d_M_nested_114 : decode b_M_nested 114 = .ok (.iload_n 1, 1) := by decide +kernel
theorem d_M_nested_115 : decode b_M_nested 115 = .ok (.istore 4, 2) := by decide +kernel
theorem d_M_nested_117 : decode b_M_nested 117 = .ok (.iload 4, 2) := by decide +kernel
theorem d_M_nested_119 : decode b_M_nested 119 = .ok (.iload_n 3, 1) := by decide +kernel
theorem d_M_nested_120 : decode b_M_nested 120 = .ok (.iadd, 1) := by decide +kernel
theorem d_M_nested_121 : decode b_M_nested 121 = .ok (.iconst 1, 1) := by decide +kernel
theorem d_M_nested_122 : decode b_M_nested 122 = .ok (.isub, 1) := by decide +kernel
theorem d_M_nested_123 : decode b_M_nested 123 = .ok (.iload_n 2, 1) := by decide +kernel
theorem d_M_nested_124 : decode b_M_nested 124 = .ok (.if_icmp .gt 172, 3) := by decide +kernel
theorem d_M_nested_127 : decode b_M_nested 127 = .ok (.iload 4, 2) := by decide +kernel
theorem d_M_nested_129 : decode b_M_nested 129 = .ok (.iload_n 3, 1) := by decide +kernel
theorem d_M_nested_130 : decode b_M_nested 130 = .ok (.iadd, 1) := by decide +kernel
theorem d_M_nested_131 : decode b_M_nested 131 = .ok (.iconst 1, 1) := by decide +kernel
theorem d_M_nested_132 : decode b_M_nested 132 = .ok (.isub, 1) := by decide +kernel
theorem d_M_nested_133 : decode b_M_nested 133 = .ok (.istore 5, 2) := by decide +kernel
theorem d_M_nested_135 : decode b_M_nested 135 = .ok (.iconst (-1), 1) := by decide +kernel
theorem d_M_nested_136 : decode b_M_nested 136 = .ok (.istore 6, 2) := by decide +kernel
theorem d_M_nested_138 : decode b_M_nested 138 = .ok (.iload 4, 2) := by decide +kernel
theorem d_M_nested_140 : decode b_M_nested 140 = .ok (.istore 7, 2) := by decide +kernel
theorem d_M_nested_142 : decode b_M_nested 142 = .ok (.iload 7, 2) := by decide +kernel
theorem d_M_nested_144 : decode b_M_nested 144 = .ok (.iload 5, 2) := by decide +kernel
theorem d_M_nested_146 : decode b_M_nested 146 = .ok (.if_icmp .ge 120, 3) := by decide +kernel
theorem d_M_nested_149 : decode b_M_nested 149 = .ok (.aload_n 0, 1) := by decide +kernel
theorem d_M_nested_150 : decode b_M_nested 150 = .ok (.getfield 7, 3) := by decide +kernel
theorem d_M_nested_153 : decode b_M_nested 153 = .ok (.iload 4, 2) := by decide +kernel
theorem d_M_nested_155 : decode b_M_nested 155 = .ok (.baload, 1) := by decide +kernel
theorem d_M_nested_156 : decode b_M_nested 156 = .ok (.ifCond .eq 110, 3) := by decide +kernel
theorem d_M_nested_159 : decode b_M_nested 159 = .ok (.aload_n 0, 1) := by decide +kernel
theorem d_M_nested_160 : decode b_M_nested 160 = .ok (.getfield 7, 3) := by decide +kernel
theorem d_M_nested_163 : decode b_M_nested 163 = .ok (.iload 5, 2) := by decide +kernel
theorem d_M_nested_165 : decode b_M_nested 165 = .ok (.baload, 1) := by decide +kernel
theorem d_M_nested_166 : decode b_M_nested 166 = .ok (.ifCond .eq 100, 3) := by decide +kernel
theorem d_M_nested_169 : decode b_M_nested 169 = .ok (.aload_n 0, 1) := by decide +kernel
theorem d_M_nested_170 : decode b_M_nested 170 = .ok (.getfield 7, 3) := by decide +kernel
theorem d_M_nested_173 : decode b_M_nested 173 = .ok (.iload 7, 2) := by decide +kernel
theorem d_M_nested_175 : decode b_M_nested 175 = .ok (.baload, 1) := by decide +kernel
theorem d_M_nested_176 : decode b_M_nested 176 = .ok (.ifCond .ne 6, 3) := by decide +kernel
theorem d_M_nested_179 : decode b_M_nested 179 = .ok (.goto 81, 3) := by decide +kernel
theorem d_M_nested_182 : decode b_M_nested 182 = .ok (.iload 7, 2) := by decide +kernel
theorem d_M_nested_184 : decode b_M_nested 184 = .ok (.iconst 1, 1) := by decide +kernel
theorem d_M_nested_185 : decode b_M_nested 185 = .ok (.iadd, 1) := by decide +kernel
theorem d_M_nested_186 : decode b_M_nested 186 = .ok (.istore 8, 2) := by decide +kernel
theorem d_M_nested_188 : decode b_M_nested 188 = .ok (.aload_n 0, 1) := by decide +kernel
theorem d_M_nested_189 : decode b_M_nested 189 = .ok (.getfield 7, 3) := by decide +kernel
theorem d_M_nested_192 : decode b_M_nested 192 = .ok (.iload 8, 2) := by decide +kernel
theorem d_M_nested_194 : decode b_M_nested 194 = .ok (.baload, 1) := by decide +kernel
theorem d_M_nested_195 : decode b_M_nested 195 = .ok (.ifCond .ne 9, 3) := by decide +kernel
theorem d_M_nested_198 : decode b_M_nested 198 = .ok (.iinc 8 1, 3) := by decide +kernel
theorem d_M_nested_201 : decode b_M_nested 201 = .ok (.goto (-13), 3) := by decide +kernel
theorem d_M_nested_204 : decode b_M_nested 204 = .ok (.aload_n 0, 1) := by decide +kernel
theorem d_M_nested_205 : decode b_M_nested 205 = .ok (.getfield 72, 3) := by decide +kernel
theorem d_M_nested_208 : decode b_M_nested 208 = .ok (.iload 4, 2) := by decide +kernel
theorem d_M_nested_210 : decode b_M_nested 210 = .ok (.bipush 8, 2) := by decide +kernel
theorem d_M_nested_212 : decode b_M_nested 212 = .ok (.imul, 1) := by decide +kernel
theorem d_M_nested_213 : decode b_M_nested 213 = .ok (.iload 7, 2) := by decide +kernel
theorem d_M_nested_215 : decode b_M_nested 215 = .ok (.iadd, 1) := by decide +kernel
theorem d_M_nested_216 : decode b_M_nested 216 = .ok (.iaload, 1) := by decide +kernel
theorem d_M_nested_217 : decode b_M_nested 217 = .ok (.aload_n 0, 1) := by decide +kernel
theorem d_M_nested_218 : decode b_M_nested 218 = .ok (.getfield 72, 3) := by decide +kernel
theorem d_M_nested_221 : decode b_M_nested 221 = .ok (.iload 8, 2) := by decide +kernel
theorem d_M_nested_223 : decode b_M_nested 223 = .ok (.bipush 8, 2) := by decide +kernel
theorem d_M_nested_225 : decode b_M_nested 225 = .ok (.imul, 1) := by decide +kernel
theorem d_M_nested_226 : decode b_M_nested 226 = .ok (.iload 5, 2) := by decide +kernel
theorem d_M_nested_228 : decode b_M_nested 228 = .ok (.iadd, 1) := by decide +kernel
theorem d_M_nested_229 : decode b_M_nested 229 = .ok (.iaload, 1) := by decide +kernel
theorem d_M_nested_230 : decode b_M_nested 230 = .ok (.iadd, 1) := by decide +kernel
theorem d_M_nested_231 : decode b_M_nested 231 = .ok (.aload_n 0, 1) := by decide +kernel
theorem d_M_nested_232 : decode b_M_nested 232 = .ok (.iload 4, 2) := by decide +kernel
theorem d_M_nested_234 : decode b_M_nested 234 = .ok (.iload 7, 2) := by decide +kernel
theorem d_M_nested_236 : decode b_M_nested 236 = .ok (.iload 5, 2) := by decide +kernel
theorem d_M_nested_238 : decode b_M_nested 238 = .ok (.invokevirtual 135, 3) := by decide +kernel
theorem d_M_nested_241 : decode b_M_nested 241 = .ok (.iadd, 1) := by decide +kernel
theorem d_M_nested_242 : decode b_M_nested 242 = .ok (.istore 9, 2) := by decide +kernel
theorem d_M_nested_244 : decode b_M_nested 244 = .ok (.iload 6, 2) := by decide +kernel
theorem d_M_nested_246 : decode b_M_nested 246 = .ok (.ifCond .lt 10, 3) := by decide +kernel
theorem d_M_nested_249 : decode b_M_nested 249 = .ok (.iload 9, 2) := by decide +kernel
theorem d_M_nested_251 : decode b_M_nested 251 = .ok (.iload 6, 2) := by decide +kernel
theorem d_M_nested_253 : decode b_M_nested 253 = .ok (.if_icmp .ge 7, 3) := by decide +kernel
theorem d_M_nested_256 : decode b_M_nested 256 = .ok (.iload 9, 2) := by decide +kernel
theorem d_M_nested_258 : decode b_M_nested 258 = .ok (.istore 6, 2) := by decide +kernel
theorem d_M_nested_260 : decode b_M_nested 260 = .ok (.iinc 7 1, 3) := by decide +kernel
theorem d_M_nested_263 : decode b_M_nested 263 = .ok (.goto (-121), 3) := by decide +kernel
theorem d_M_nested_266 : decode b_M_nested 266 = .ok (.aload_n 0, 1) := by decide +kernel
theorem d_M_nested_267 : decode b_M_nested 267 = .ok (.getfield 72, 3) := by decide +kernel
theorem d_M_nested_270 : decode b_M_nested 270 = .ok (.iload 4, 2) := by decide +kernel
theorem d_M_nested_272 : decode b_M_nested 272 = .ok (.bipush 8, 2) := by decide +kernel
theorem d_M_nested_274 : decode b_M_nested 274 = .ok (.imul, 1) := by decide +kernel
theorem d_M_nested_275 : decode b_M_nested 275 = .ok (.iload 5, 2) := by decide +kernel
theorem d_M_nested_277 : decode b_M_nested 277 = .ok (.iadd, 1) := by decide +kernel
theorem d_M_nested_278 : decode b_M_nested 278 = .ok (.iload 6, 2) := by decide +kernel
theorem d_M_nested_280 : decode b_M_nested 280 = .ok (.ifCond .ge 7, 3) := by decide +kernel
theorem d_M_nested_283 : decode b_M_nested 283 = .ok (.iconst 0, 1) := by decide +kernel
theorem d_M_nested_284 : decode b_M_nested 284 = .ok (.goto 5, 3) := by decide +kernel
theorem d_M_nested_287 : decode b_M_nested 287 = .ok (.iload 6, 2) := by decide +kernel
theorem d_M_nested_289 : decode b_M_nested 289 = .ok (.iastore, 1) := by decide +kernel
theorem d_M_nested_290 : decode b_M_nested 290 = .ok (.iinc 4 1, 3) := by decide +kernel
theorem d_M_nested_293 : decode b_M_nested 293 = .ok (.goto (-176), 3) := by decide +kernel
theorem d_M_nested_296 : decode b_M_nested 296 = .ok (.iinc 3 1, 3) := by decide +kernel
theorem d_M_nested_299 : decode b_M_nested 299 = .ok (.goto (-194), 3) := by decide +kernel
theorem d_M_nested_302 : decode b_M_nested 302 = .ok (.aload_n 0, 1) := by decide +kernel
theorem d_M_nested_303 : decode b_M_nested 303 = .ok (.getfield 72, 3) := by decide +kernel
theorem d_M_nested_306 : decode b_M_nested 306 = .ok (.iload_n 1, 1) := by decide +kernel
theorem d_M_nested_307 : decode b_M_nested 307 = .ok (.bipush 8, 2) := by decide +kernel
theorem d_M_nested_309 : decode b_M_nested 309 = .ok (.imul, 1) := by decide +kernel
theorem d_M_nested_310 : decode b_M_nested 310 = .ok (.iload_n 2, 1) := by decide +kernel
theorem d_M_nested_311 : decode b_M_nested 311 = .ok (.iadd, 1) := by decide +kernel
theorem d_M_nested_312 : decode b_M_nested 312 = .ok (.iaload, 1) := by decide +kernel
theorem d_M_nested_313 : decode b_M_nested 313 = .ok (.ireturn, 1) := by decide +kernel
theorem d_M_latest_0 : decode b_M_latest 0 = .ok (.aload_n 0, 1) := by decide +kernel
theorem d_M_latest_1 : decode b_M_latest 1 = .ok (.iload_n 1, 1) := by decide +kernel
theorem d_M_latest_2 : decode b_M_latest 2 = .ok (.invokevirtual 79, 3) := by decide +kernel
theorem d_M_latest_5 : decode b_M_latest 5 = .ok (.ifCond .eq 10, 3) := by decide +kernel
theorem d_M_latest_8 : decode b_M_latest 8 = .ok (.aload_n 0, 1) := by decide +kernel
theorem d_M_latest_9 : decode b_M_latest 9 = .ok (.getfield 75, 3) := by decide +kernel
theorem d_M_latest_12 : decode b_M_latest 12 = .ok (.ifCond .ne 9, 3) := by decide +kernel
theorem d_M_latest_15 : decode b_M_latest 15 = .ok (.ldc2_w 139, 3) := by decide +kernel
theorem d_M_latest_18 : decode b_M_latest 18 = .ok (.goto 10, 3) := by decide +kernel
theorem d_M_latest_21 : decode b_M_latest 21 = .ok (.aload_n 0, 1) := by decide +kernel
theorem d_M_latest_22 : decode b_M_latest 22 = .ok (.getfield 66, 3) := by decide +kernel
theorem d_M_latest_25 : decode b_M_latest 25 = .ok (.iload_n 1, 1) := by decide +kernel
theorem d_M_latest_26 : decode b_M_latest 26 = .ok (.iaload, 1) := by decide +kernel
theorem d_M_latest_27 : decode b_M_latest 27 = .ok (.i2l, 1) := by decide +kernel
theorem d_M_latest_28 : decode b_M_latest 28 = .ok (.lreturn, 1) := by decide +kernel
theorem d_M_token_0 : decode b_M_token 0 = .ok (.iload_n 1, 1) := by decide +kernel
theorem d_M_token_1 : decode b_M_token 1 = .ok (.ifCond .lt 32, 3) := by decide +kernel
theorem d_M_token_4 : decode b_M_token 4 = .ok (.iload_n 1, 1) := by decide +kernel
theorem d_M_token_5 : decode b_M_token 5 = .ok (.aload_n 0, 1) := by decide +kernel
theorem d_M_token_6 : decode b_M_token 6 = .ok (.getfield 83, 3) := by decide +kernel
theorem d_M_token_9 : decode b_M_token 9 = .ok (.if_icmp .ge 24, 3) := by decide +kernel
theorem d_M_token_12 : decode b_M_token 12 = .ok (.aload_n 0, 1) := by decide +kernel
theorem d_M_token_13 : decode b_M_token 13 = .ok (.getfield 75, 3) := by decide +kernel
theorem d_M_token_16 : decode b_M_token 16 = .ok (.ifCond .eq 17, 3) := by decide +kernel
theorem d_M_token_19 : decode b_M_token 19 = .ok (.iload_n 2, 1) := by decide +kernel
theorem d_M_token_20 : decode b_M_token 20 = .ok (.ifCond .lt 13, 3) := by decide +kernel
theorem d_M_token_23 : decode b_M_token 23 = .ok (.iload_n 2, 1) := by decide +kernel
theorem d_M_token_24 : decode b_M_token 24 = .ok (.aload_n 0, 1) := by decide +kernel
theorem d_M_token_25 : decode b_M_token 25 = .ok (.getfield 63, 3) := by decide +kernel
theorem d_M_token_28 : decode b_M_token 28 = .ok (.iload_n 1, 1) := by decide +kernel
theorem d_M_token_29 : decode b_M_token 29 = .ok (.iaload, 1) := by decide +kernel
theorem d_M_token_30 : decode b_M_token 30 = .ok (.if_icmp .lt 9, 3) := by decide +kernel
theorem d_M_token_33 : decode b_M_token 33 = .ok (.ldc2_w 139, 3) := by decide +kernel
theorem d_M_token_36 : decode b_M_token 36 = .ok (.goto 16, 3) := by decide +kernel
theorem d_M_token_39 : decode b_M_token 39 = .ok (.aload_n 0, 1) := by decide +kernel
theorem d_M_token_40 : decode b_M_token 40 = .ok (.getfield 60, 3) := by decide +kernel
theorem d_M_token_43 : decode b_M_token 43 = .ok (.iload_n 1, 1) := by decide +kernel
theorem d_M_token_44 : decode b_M_token 44 = .ok (.sipush 400, 3) := by decide +kernel
theorem d_M_token_47 : decode b_M_token 47 = .ok (.imul, 1) := by decide +kernel
theorem d_M_token_48 : decode b_M_token 48 = .ok (.iload_n 2, 1) := by decide +kernel
theorem d_M_token_49 : decode b_M_token 49 = .ok (.iadd, 1) := by decide +kernel
theorem d_M_token_50 : decode b_M_token 50 = .ok (.iaload, 1) := by decide +kernel
theorem d_M_token_51 : decode b_M_token 51 = .ok (.i2l, 1) := by decide +kernel
theorem d_M_token_52 : decode b_M_token 52 = .ok (.lreturn, 1) := by decide +kernel
theorem d_M_tokens_0 : decode b_M_tokens 0 = .ok (.iload_n 1, 1) := by decide +kernel
theorem d_M_tokens_1 : decode b_M_tokens 1 = .ok (.ifCond .lt 11, 3) := by decide +kernel
theorem d_M_tokens_4 : decode b_M_tokens 4 = .ok (.iload_n 1, 1) := by decide +kernel
theorem d_M_tokens_5 : decode b_M_tokens 5 = .ok (.aload_n 0, 1) := by decide +kernel
theorem d_M_tokens_6 : decode b_M_tokens 6 = .ok (.getfield 83, 3) := by decide +kernel
theorem d_M_tokens_9 : decode b_M_tokens 9 = .ok (.if_icmp .lt 5, 3) := by decide +kernel
theorem d_M_tokens_12 : decode b_M_tokens 12 = .ok (.iconst (-1), 1) := by decide +kernel
theorem d_M_tokens_13 : decode b_M_tokens 13 = .ok (.ireturn, 1) := by decide +kernel
theorem d_M_tokens_14 : decode b_M_tokens 14 = .ok (.aload_n 0, 1) := by decide +kernel
theorem d_M_tokens_15 : decode b_M_tokens 15 = .ok (.getfield 75, 3) := by decide +kernel
theorem d_M_tokens_18 : decode b_M_tokens 18 = .ok (.ifCond .eq 12, 3) := by decide +kernel
theorem d_M_tokens_21 : decode b_M_tokens 21 = .ok (.aload_n 0, 1) := by decide +kernel
theorem d_M_tokens_22 : decode b_M_tokens 22 = .ok (.getfield 63, 3) := by decide +kernel
theorem d_M_tokens_25 : decode b_M_tokens 25 = .ok (.iload_n 1, 1) := by decide +kernel
theorem d_M_tokens_26 : decode b_M_tokens 26 = .ok (.iaload, 1) := by decide +kernel
theorem d_M_tokens_27 : decode b_M_tokens 27 = .ok (.goto 5, 3) := by decide +kernel
theorem d_M_tokens_30 : decode b_M_tokens 30 = .ok (.bipush (-4), 2) := by decide +kernel
theorem d_M_tokens_32 : decode b_M_tokens 32 = .ok (.ireturn, 1) := by decide +kernel
theorem d_M_count_0 : decode b_M_count 0 = .ok (.iload_n 1, 1) := by decide +kernel
theorem d_M_count_1 : decode b_M_count 1 = .ok (.ifCond .lt 9, 3) := by decide +kernel
theorem d_M_count_4 : decode b_M_count 4 = .ok (.iload_n 1, 1) := by decide +kernel
theorem d_M_count_5 : decode b_M_count 5 = .ok (.bipush 8, 2) := by decide +kernel
theorem d_M_count_7 : decode b_M_count 7 = .ok (.if_icmp .le 5, 3) := by decide +kernel
theorem d_M_count_10 : decode b_M_count 10 = .ok (.iconst (-1), 1) := by decide +kernel
theorem d_M_count_11 : decode b_M_count 11 = .ok (.ireturn, 1) := by decide +kernel
theorem d_M_count_12 : decode b_M_count 12 = .ok (.iconst 0, 1) := by decide +kernel
theorem d_M_count_13 : decode b_M_count 13 = .ok (.istore_n 2, 1) := by decide +kernel
theorem d_M_count_14 : decode b_M_count 14 = .ok (.iload_n 1, 1) := by decide +kernel
theorem d_M_count_15 : decode b_M_count 15 = .ok (.iconst 2, 1) := by decide +kernel
theorem d_M_count_16 : decode b_M_count 16 = .ok (.if_icmp .ne 45, 3) := by decide +kernel
theorem d_M_count_19 : decode b_M_count 19 = .ok (.aload_n 0, 1) := by decide +kernel
theorem d_M_count_20 : decode b_M_count 20 = .ok (.aload_n 0, 1) := by decide +kernel
theorem d_M_count_21 : decode b_M_count 21 = .ok (.getfield 83, 3) := by decide +kernel
theorem d_M_count_24 : decode b_M_count 24 = .ok (.invokevirtual 111, 3) := by decide +kernel
theorem d_M_count_27 : decode b_M_count 27 = .ok (.istore_n 3, 1) := by decide +kernel
theorem d_M_count_28 : decode b_M_count 28 = .ok (.iconst 0, 1) := by decide +kernel
theorem d_M_count_29 : decode b_M_count 29 = .ok (.istore 4, 2) := by decide +kernel
theorem d_M_count_31 : decode b_M_count 31 = .ok (.iload 4, 2) := by decide +kernel
theorem d_M_count_33 : decode b_M_count 33 = .ok (.bipush 8, 2) := by decide +kernel
theorem d_M_count_35 : decode b_M_count 35 = .ok (.if_icmp .ge 24, 3) := by decide +kernel
theorem d_M_count_38 : decode b_M_count 38 = .ok (.aload_n 0, 1) := by decide +kernel
theorem d_M_count_39 : decode b_M_count 39 = .ok (.getfield 42, 3) := by decide +kernel
theorem d_M_count_42 : decode b_M_count 42 = .ok (.iload 4, 2) := by decide +kernel
theorem d_M_count_44 : decode b_M_count 44 = .ok (.iaload, 1) := by decide +kernel
theorem d_M_count_45 : decode b_M_count 45 = .ok (.iload 4, 2) := by decide +kernel
theorem d_M_count_47 : decode b_M_count 47 = .ok (.if_icmp .ne 6, 3) := by decide +kernel
theorem d_M_count_50 : decode b_M_count 50 = .ok (.iinc 2 1, 3) := by decide +kernel
theorem d_M_count_53 : decode b_M_count 53 = .ok (.iinc 4 1, 3) := by decide +kernel
theorem d_M_count_56 : decode b_M_count 56 = .ok (.goto (-25), 3) := by decide +kernel
theorem d_M_count_59 : decode b_M_count 59 = .ok (.iload_n 2, 1) := by decide +kernel
theorem d_M_count_60 : decode b_M_count 60 = .ok (.ireturn, 1) := by decide +kernel
theorem d_M_count_61 : decode b_M_count 61 = .ok (.iconst 0, 1) := by decide +kernel
theorem d_M_count_62 : decode b_M_count 62 = .ok (.istore_n 3, 1) := by decide +kernel
theorem d_M_count_63 : decode b_M_count 63 = .ok (.iload_n 3, 1) := by decide +kernel
theorem d_M_count_64 : decode b_M_count 64 = .ok (.bipush 8, 2) := by decide +kernel
theorem d_M_count_66 : decode b_M_count 66 = .ok (.if_icmp .ge 21, 3) := by decide +kernel
theorem d_M_count_69 : decode b_M_count 69 = .ok (.aload_n 0, 1) := by decide +kernel
theorem d_M_count_70 : decode b_M_count 70 = .ok (.getfield 7, 3) := by decide +kernel
theorem d_M_count_73 : decode b_M_count 73 = .ok (.iload_n 3, 1) := by decide +kernel
theorem d_M_count_74 : decode b_M_count 74 = .ok (.baload, 1) := by decide +kernel
theorem d_M_count_75 : decode b_M_count 75 = .ok (.ifCond .eq 6, 3) := by decide +kernel
theorem d_M_count_78 : decode b_M_count 78 = .ok (.iinc 2 1, 3) := by decide +kernel
theorem d_M_count_81 : decode b_M_count 81 = .ok (.iinc 3 1, 3) := by decide +kernel
theorem d_M_count_84 : decode b_M_count 84 = .ok (.goto (-21), 3) := by decide +kernel
theorem d_M_count_87 : decode b_M_count 87 = .ok (.iload_n 1, 1) := by decide +kernel
theorem d_M_count_88 : decode b_M_count 88 = .ok (.iconst 2, 1) := by decide +kernel
theorem d_M_count_89 : decode b_M_count 89 = .ok (.if_icmp .ge 16, 3) := by decide +kernel
theorem d_M_count_92 : decode b_M_count 92 = .ok (.iload_n 1, 1) := by decide +kernel
theorem d_M_count_93 : decode b_M_count 93 = .ok (.ifCond .ne 7, 3) := by decide +kernel
theorem d_M_count_96 : decode b_M_count 96 = .ok (.iload_n 2, 1) := by decide +kernel
theorem d_M_count_97 : decode b_M_count 97 = .ok (.goto 7, 3) := by decide +kernel
theorem d_M_count_100 : decode b_M_count 100 = .ok (.aload_n 0, 1) := by decide +kernel
theorem d_M_count_101 : decode b_M_count 101 = .ok (.getfield 83, 3) := by decide +kernel
theorem d_M_count_104 : decode b_M_count 104 = .ok (.ireturn, 1) := by decide +kernel
theorem d_M_count_105 : decode b_M_count 105 = .ok (.aload_n 0, 1) := by decide +kernel
theorem d_M_count_106 : decode b_M_count 106 = .ok (.getfield 75, 3) := by decide +kernel
theorem d_M_count_109 : decode b_M_count 109 = .ok (.ifCond .ne 5, 3) := by decide +kernel
theorem d_M_count_112 : decode b_M_count 112 = .ok (.iconst 0, 1) := by decide +kernel
theorem d_M_count_113 : decode b_M_count 113 = .ok (.ireturn, 1) := by decide +kernel
theorem d_M_count_114 : decode b_M_count 114 = .ok (.iload_n 1, 1) := by decide +kernel
theorem d_M_count_115 : decode b_M_count 115 = .ok (.iconst 3, 1) := by decide +kernel
theorem d_M_count_116 : decode b_M_count 116 = .ok (.if_icmp .ne 5, 3) := by decide +kernel
theorem d_M_count_119 : decode b_M_count 119 = .ok (.iconst 1, 1) := by decide +kernel
theorem d_M_count_120 : decode b_M_count 120 = .ok (.ireturn, 1) := by decide +kernel
theorem d_M_count_121 : decode b_M_count 121 = .ok (.iload_n 1, 1) := by decide +kernel
theorem d_M_count_122 : decode b_M_count 122 = .ok (.iconst 4, 1) := by decide +kernel
theorem d_M_count_123 : decode b_M_count 123 = .ok (.if_icmp .ne 8, 3) := by decide +kernel
theorem d_M_count_126 : decode b_M_count 126 = .ok (.aload_n 0, 1) := by decide +kernel
theorem d_M_count_127 : decode b_M_count 127 = .ok (.getfield 108, 3) := by decide +kernel
theorem d_M_count_130 : decode b_M_count 130 = .ok (.ireturn, 1) := by decide +kernel
theorem d_M_count_131 : decode b_M_count 131 = .ok (.iload_n 1, 1) := by decide +kernel
theorem d_M_count_132 : decode b_M_count 132 = .ok (.bipush 7, 2) := by decide +kernel
theorem d_M_count_134 : decode b_M_count 134 = .ok (.if_icmp .ne 8, 3) := by decide +kernel
theorem d_M_count_137 : decode b_M_count 137 = .ok (.aload_n 0, 1) := by decide +kernel
theorem d_M_count_138 : decode b_M_count 138 = .ok (.getfield 118, 3) := by decide +kernel
theorem d_M_count_141 : decode b_M_count 141 = .ok (.ireturn, 1) := by decide +kernel
theorem d_M_count_142 : decode b_M_count 142 = .ok (.iconst 0, 1) := by decide +kernel
theorem d_M_count_143 : decode b_M_count 143 = .ok (.istore_n 2, 1) := by decide +kernel
theorem d_M_count_144 : decode b_M_count 144 = .ok (.iconst 0, 1) := by decide +kernel
theorem d_M_count_145 : decode b_M_count 145 = .ok (.istore_n 3, 1) := by decide +kernel
theorem d_M_count_146 : decode b_M_count 146 = .ok (.iload_n 1, 1) := by decide +kernel
theorem d_M_count_147 : decode b_M_count 147 = .ok (.iconst 5, 1) := by decide +kernel
theorem d_M_count_148 : decode b_M_count 148 = .ok (.if_icmp .ne 41, 3) := by decide +kernel
theorem d_M_count_151 : decode b_M_count 151 = .ok (.iload_n 3, 1) := by decide +kernel
theorem d_M_count_152 : decode b_M_count 152 = .ok (.aload_n 0, 1) := by decide +kernel
theorem d_M_count_153 : decode b_M_count 153 = .ok (.getfield 108, 3) := by decide +kernel
theorem d_M_count_156 : decode b_M_count 156 = .ok (.if_icmp .ge 33, 3) := by decide +kernel
theorem d_M_count_159 : decode b_M_count 159 = .ok (.iload_n 3, 1) := by decide +kernel
theorem d_M_count_160 : decode b_M_count 160 = .ok (.ifCond .eq 20, 3) := by decide +kernel
theorem d_M_count_163 : decode b_M_count 163 = .ok (.aload_n 0, 1) := by decide +kernel
theorem d_M_count_164 : decode b_M_count 164 = .ok (.getfield 51, 3) := by decide +kernel
theorem d_M_count_167 : decode b_M_count 167 = .ok (.iload_n 3, 1) := by decide +kernel
theorem d_M_count_168 : decode b_M_count 168 = .ok (.iaload, 1) := by decide +kernel
theorem d_M_count_169 : decode b_M_count 169 = .ok (.aload_n 0, 1) := by decide +kernel
theorem d_M_count_170 : decode b_M_count 170 = .ok (.getfield 51, 3) := by decide +kernel
theorem d_M_count_173 : decode b_M_count 173 = .ok (.iload_n 3, 1) := by decide +kernel
theorem d_M_count_174 : decode b_M_count 174 = .ok (.iconst 1, 1) := by decide +kernel
theorem d_M_count_175 : decode b_M_count 175 = .ok (.isub, 1) := by decide +kernel
theorem d_M_count_176 : decode b_M_count 176 = .ok (.iaload, 1) := by decide +kernel
theorem d_M_count_177 : decode b_M_count 177 = .ok (.if_icmp .eq 6, 3) := by decide +kernel
theorem d_M_count_180 : decode b_M_count 180 = .ok (.iinc 2 1, 3) := by decide +kernel
theorem d_M_count_183 : decode b_M_count 183 = .ok (.iinc 3 1, 3) := by decide +kernel
theorem d_M_count_186 : decode b_M_count 186 = .ok (.goto (-40), 3) := by decide +kernel
theorem d_M_count_189 : decode b_M_count 189 = .ok (.iconst 0, 1) := by decide +kernel
theorem d_M_count_190 : decode b_M_count 190 = .ok (.istore_n 3, 1) := by decide +kernel
theorem d_M_count_191 : decode b_M_count 191 = .ok (.iload_n 1, 1) := by decide +kernel
theorem d_M_count_192 : decode b_M_count 192 = .ok (.iconst 5, 1) := by decide +kernel
theorem d_M_count_193 : decode b_M_count 193 = .ok (.if_icmp .le 41, 3) := by decide +kernel
theorem d_M_count_196 : decode b_M_count 196 = .ok (.iload_n 3, 1) := by decide +kernel
theorem d_M_count_197 : decode b_M_count 197 = .ok (.aload_n 0, 1) := by decide +kernel
theorem d_M_count_198 : decode b_M_count 198 = .ok (.getfield 83, 3) := by decide +kernel
theorem d_M_count_201 : decode b_M_count 201 = .ok (.if_icmp .ge 33, 3) := by decide +kernel
theorem d_M_count_204 : decode b_M_count 204 = .ok (.iload_n 2, 1) := by decide +kernel
theorem d_M_count_205 : decode b_M_count 205 = .ok (.iload_n 1, 1) := by decide +kernel
theorem d_M_count_206 : decode b_M_count 206 = .ok (.bipush 6, 2) := by decide +kernel
theorem d_M_count_208 : decode b_M_count 208 = .ok (.if_icmp .ne 12, 3) := by decide +kernel
theorem d_M_count_211 : decode b_M_count 211 = .ok (.aload_n 0, 1) := by decide +kernel
theorem d_M_count_212 : decode b_M_count 212 = .ok (.getfield 54, 3) := by decide +kernel
theorem d_M_count_215 : decode b_M_count 215 = .ok (.iload_n 3, 1) := by decide +kernel
theorem d_M_count_216 : decode b_M_count 216 = .ok (.iaload, 1) := by decide +kernel
theorem d_M_count_217 : decode b_M_count 217 = .ok (.goto 9, 3) := by decide +kernel
theorem d_M_count_220 : decode b_M_count 220 = .ok (.aload_n 0, 1) := by decide +kernel
theorem d_M_count_221 : decode b_M_count 221 = .ok (.getfield 63, 3) := by decide +kernel
theorem d_M_count_224 : decode b_M_count 224 = .ok (.iload_n 3, 1) := by decide +kernel
theorem d_M_count_225 : decode b_M_count 225 = .ok (.iaload, 1) := by decide +kernel
theorem d_M_count_226 : decode b_M_count 226 = .ok (.iadd, 1) := by decide +kernel
theorem d_M_count_227 : decode b_M_count 227 = .ok (.istore_n 2, 1) := by decide +kernel
theorem d_M_count_228 : decode b_M_count 228 = .ok (.iinc 3 1, 3) := by decide +kernel
theorem d_M_count_231 : decode b_M_count 231 = .ok (.goto (-40), 3) := by decide +kernel
theorem d_M_count_234 : decode b_M_count 234 = .ok (.iload_n 2, 1) := by decide +kernel
theorem d_M_count_235 : decode b_M_count 235 = .ok (.ireturn, 1) := by decide +kernel
