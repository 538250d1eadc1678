theorem eX9_readHand_106 : decode cX9_readHand 106 = .ok (.getfield 175, 3) ∧ decode cX9_readHand 109 = .ok (.iload_n 3, 1) ∧ decode cX9_readHand 110 = .ok (.invokevirtual 171, 3) ∧ decode cX9_readHand 113 = .ok (.iload_n 2, 1) ∧ decode cX9_readHand 114 = .ok (.iadd, 1) ∧ decode cX9_readHand 115 = .ok (.aload_n 0, 1) ∧ decode cX9_readHand 116 = .ok (.getfield 12, 3) ∧ decode cX9_readHand 119 = .ok (.getfield 67, 3) ∧ True := dkl_ok (c := cX9_readHand) [(.getfield 175, 3), (.iload_n 3, 1), (.invokevirtual 171, 3), (.iload_n 2, 1), (.iadd, 1), (.aload_n 0, 1), (.getfield 12, 3), (.getfield 67, 3)] 106 (by decide +kernel)
theorem dX9_readHand_106 : decode cX9_readHand 106 = .ok (.getfield 175, 3) := eX9_readHand_106.1
theorem dX9_readHand_109 : decode cX9_readHand 109 = .ok (.iload_n 3, 1) := eX9_readHand_106.2.1
theorem dX9_readHand_110 : decode cX9_readHand 110 = .ok (.invokevirtual 171, 3) := eX9_readHand_106.2.2.1
theorem dX9_readHand_113 : decode cX9_readHand 113 = .ok (.iload_n 2, 1) := eX9_readHand_106.2.2.2.1
theorem dX9_readHand_114 : decode cX9_readHand 114 = .ok (.iadd, 1) := eX9_readHand_106.2.2.2.2.1
theorem dX9_readHand_115 : decode cX9_readHand 115 = .ok (.aload_n 0, 1) := eX9_readHand_106.2.2.2.2.2.1
theorem dX9_readHand_116 : decode cX9_readHand 116 = .ok (.getfield 12, 3) := eX9_readHand_106.2.2.2.2.2.2.1
theorem dX9_readHand_119 : decode cX9_readHand 119 = .ok (.getfield 67, 3) := eX9_readHand_106.2.2.2.2.2.2.2.1
theorem eX9_readHand_122 : decode cX9_readHand 122 = .ok (.getfield 75, 3) ∧ decode cX9_readHand 125 = .ok (.if_icmp .le 9, 3) ∧ decode cX9_readHand 128 = .ok (.aload_n 0, 1) ∧ decode cX9_readHand 129 = .ok (.iconst 5, 1) ∧ decode cX9_readHand 130 = .ok (.invokevirtual 103, 3) ∧ decode cX9_readHand 133 = .ok (.ireturn, 1) ∧ decode cX9_readHand 134 = .ok (.aload_n 0, 1) ∧ decode cX9_readHand 135 = .ok (.getfield 30, 3) ∧ True := dkl_ok (c := cX9_readHand) [(.getfield 75, 3), (.if_icmp .le 9, 3), (.aload_n 0, 1), (.iconst 5, 1), (.invokevirtual 103, 3), (.ireturn, 1), (.aload_n 0, 1), (.getfield 30, 3)] 122 (by decide +kernel)
theorem dX9_readHand_122 : decode cX9_readHand 122 = .ok (.getfield 75, 3) := eX9_readHand_122.1
theorem dX9_readHand_125 : decode cX9_readHand 125 = .ok (.if_icmp .le 9, 3) := eX9_readHand_122.2.1
theorem dX9_readHand_128 : decode cX9_readHand 128 = .ok (.aload_n 0, 1) := eX9_readHand_122.2.2.1
theorem dX9_readHand_129 : decode cX9_readHand 129 = .ok (.iconst 5, 1) := eX9_readHand_122.2.2.2.1
theorem dX9_readHand_130 : decode cX9_readHand 130 = .ok (.invokevirtual 103, 3) := eX9_readHand_122.2.2.2.2.1
theorem dX9_readHand_133 : decode cX9_readHand 133 = .ok (.ireturn, 1) := eX9_readHand_122.2.2.2.2.2.1
theorem dX9_readHand_134 : decode cX9_readHand 134 = .ok (.aload_n 0, 1) := eX9_readHand_122.2.2.2.2.2.2.1
theorem dX9_readHand_135 : decode cX9_readHand 135 = .ok (.getfield 30, 3) := eX9_readHand_122.2.2.2.2.2.2.2.1
theorem eX9_readHand_138 : decode cX9_readHand 138 = .ok (.iload_n 1, 1) ∧ decode cX9_readHand 139 = .ok (.iconst 1, 1) ∧ decode cX9_readHand 140 = .ok (.iload_n 3, 1) ∧ decode cX9_readHand 141 = .ok (.ishl, 1) ∧ decode cX9_readHand 142 = .ok (.invokevirtual 178, 3) ∧ decode cX9_readHand 145 = .ok (.aload_n 0, 1) ∧ decode cX9_readHand 146 = .ok (.getfield 12, 3) ∧ decode cX9_readHand 149 = .ok (.getfield 67, 3) ∧ True := dkl_ok (c := cX9_readHand) [(.iload_n 1, 1), (.iconst 1, 1), (.iload_n 3, 1), (.ishl, 1), (.invokevirtual 178, 3), (.aload_n 0, 1), (.getfield 12, 3), (.getfield 67, 3)] 138 (by decide +kernel)
theorem dX9_readHand_138 : decode cX9_readHand 138 = .ok (.iload_n 1, 1) := eX9_readHand_138.1
theorem dX9_readHand_139 : decode cX9_readHand 139 = .ok (.iconst 1, 1) := eX9_readHand_138.2.1
theorem dX9_readHand_140 : decode cX9_readHand 140 = .ok (.iload_n 3, 1) := eX9_readHand_138.2.2.1
theorem dX9_readHand_141 : decode cX9_readHand 141 = .ok (.ishl, 1) := eX9_readHand_138.2.2.2.1
theorem dX9_readHand_142 : decode cX9_readHand 142 = .ok (.invokevirtual 178, 3) := eX9_readHand_138.2.2.2.2.1
theorem dX9_readHand_145 : decode cX9_readHand 145 = .ok (.aload_n 0, 1) := eX9_readHand_138.2.2.2.2.2.1
theorem dX9_readHand_146 : decode cX9_readHand 146 = .ok (.getfield 12, 3) := eX9_readHand_138.2.2.2.2.2.2.1
theorem dX9_readHand_149 : decode cX9_readHand 149 = .ok (.getfield 67, 3) := eX9_readHand_138.2.2.2.2.2.2.2.1
theorem eX9_readHand_152 : decode cX9_readHand 152 = .ok (.getfield 175, 3) ∧ decode cX9_readHand 155 = .ok (.iload_n 3, 1) ∧ decode cX9_readHand 156 = .ok (.iload_n 2, 1) ∧ decode cX9_readHand 157 = .ok (.invokevirtual 178, 3) ∧ decode cX9_readHand 160 = .ok (.aload_n 0, 1) ∧ decode cX9_readHand 161 = .ok (.getfield 12, 3) ∧ decode cX9_readHand 164 = .ok (.getfield 136, 3) ∧ decode cX9_readHand 167 = .ok (.iload_n 1, 1) ∧ True := dkl_ok (c := cX9_readHand) [(.getfield 175, 3), (.iload_n 3, 1), (.iload_n 2, 1), (.invokevirtual 178, 3), (.aload_n 0, 1), (.getfield 12, 3), (.getfield 136, 3), (.iload_n 1, 1)] 152 (by decide +kernel)
theorem dX9_readHand_152 : decode cX9_readHand 152 = .ok (.getfield 175, 3) := eX9_readHand_152.1
theorem dX9_readHand_155 : decode cX9_readHand 155 = .ok (.iload_n 3, 1) := eX9_readHand_152.2.1
theorem dX9_readHand_156 : decode cX9_readHand 156 = .ok (.iload_n 2, 1) := eX9_readHand_152.2.2.1
theorem dX9_readHand_157 : decode cX9_readHand 157 = .ok (.invokevirtual 178, 3) := eX9_readHand_152.2.2.2.1
theorem dX9_readHand_160 : decode cX9_readHand 160 = .ok (.aload_n 0, 1) := eX9_readHand_152.2.2.2.2.1
theorem dX9_readHand_161 : decode cX9_readHand 161 = .ok (.getfield 12, 3) := eX9_readHand_152.2.2.2.2.2.1
theorem dX9_readHand_164 : decode cX9_readHand 164 = .ok (.getfield 136, 3) := eX9_readHand_152.2.2.2.2.2.2.1
theorem dX9_readHand_167 : decode cX9_readHand 167 = .ok (.iload_n 1, 1) := eX9_readHand_152.2.2.2.2.2.2.2.1
theorem eX9_readHand_168 : decode cX9_readHand 168 = .ok (.iload_n 3, 1) ∧ decode cX9_readHand 169 = .ok (.iload_n 2, 1) ∧ decode cX9_readHand 170 = .ok (.invokevirtual 181, 3) ∧ decode cX9_readHand 173 = .ok (.aload_n 0, 1) ∧ decode cX9_readHand 174 = .ok (.invokevirtual 107, 3) ∧ decode cX9_readHand 177 = .ok (.aload_n 0, 1) ∧ decode cX9_readHand 178 = .ok (.invokevirtual 77, 3) ∧ decode cX9_readHand 181 = .ok (.ireturn, 1) ∧ True := dkl_ok (c := cX9_readHand) [(.iload_n 3, 1), (.iload_n 2, 1), (.invokevirtual 181, 3), (.aload_n 0, 1), (.invokevirtual 107, 3), (.aload_n 0, 1), (.invokevirtual 77, 3), (.ireturn, 1)] 168 (by decide +kernel)
theorem dX9_readHand_168 : decode cX9_readHand 168 = .ok (.iload_n 3, 1) := eX9_readHand_168.1
theorem dX9_readHand_169 : decode cX9_readHand 169 = .ok (.iload_n 2, 1) := eX9_readHand_168.2.1
theorem dX9_readHand_170 : decode cX9_readHand 170 = .ok (.invokevirtual 181, 3) := eX9_readHand_168.2.2.1
theorem dX9_readHand_173 : decode cX9_readHand 173 = .ok (.aload_n 0, 1) := eX9_readHand_168.2.2.2.1
theorem dX9_readHand_174 : decode cX9_readHand 174 = .ok (.invokevirtual 107, 3) := eX9_readHand_168.2.2.2.2.1
theorem dX9_readHand_177 : decode cX9_readHand 177 = .ok (.aload_n 0, 1) := eX9_readHand_168.2.2.2.2.2.1
theorem dX9_readHand_178 : decode cX9_readHand 178 = .ok (.invokevirtual 77, 3) := eX9_readHand_168.2.2.2.2.2.2.1
theorem dX9_readHand_181 : decode cX9_readHand 181 = .ok (.ireturn, 1) := eX9_readHand_168.2.2.2.2.2.2.2.1
theorem eX10_init_0 : decode cX10_init 0 = .ok (.aload_n 0, 1) ∧ decode cX10_init 1 = .ok (.invokespecial 3, 3) ∧ decode cX10_init 4 = .ok (.aload_n 0, 1) ∧ decode cX10_init 5 = .ok (.iconst 0, 1) ∧ decode cX10_init 6 = .ok (.putfield 9, 3) ∧ decode cX10_init 9 = .ok (.aload_n 0, 1) ∧ decode cX10_init 10 = .ok (.iconst (-1), 1) ∧ decode cX10_init 11 = .ok (.putfield 15, 3) ∧ True := dkl_ok (c := cX10_init) [(.aload_n 0, 1), (.invokespecial 3, 3), (.aload_n 0, 1), (.iconst 0, 1), (.putfield 9, 3), (.aload_n 0, 1), (.iconst (-1), 1), (.putfield 15, 3)] 0 (by decide +kernel)
theorem dX10_init_0 : decode cX10_init 0 = .ok (.aload_n 0, 1) := eX10_init_0.1
theorem dX10_init_1 : decode cX10_init 1 = .ok (.invokespecial 3, 3) := eX10_init_0.2.1
theorem dX10_init_4 : decode cX10_init 4 = .ok (.aload_n 0, 1) := eX10_init_0.2.2.1
theorem dX10_init_5 : decode cX10_init 5 = .ok (.iconst 0, 1) := eX10_init_0.2.2.2.1
theorem dX10_init_6 : decode cX10_init 6 = .ok (.putfield 9, 3) := eX10_init_0.2.2.2.2.1
theorem dX10_init_9 : decode cX10_init 9 = .ok (.aload_n 0, 1) := eX10_init_0.2.2.2.2.2.1
theorem dX10_init_10 : decode cX10_init 10 = .ok (.iconst (-1), 1) := eX10_init_0.2.2.2.2.2.2.1
theorem dX10_init_11 : decode cX10_init 11 = .ok (.putfield 15, 3) := eX10_init_0.2.2.2.2.2.2.2.1
theorem eX10_init_14 : decode cX10_init 14 = .ok (.aload_n 0, 1) ∧ decode cX10_init 15 = .ok (.bipush 60, 2) ∧ True := dkl_ok (c := cX10_init) [(.aload_n 0, 1), (.bipush 60, 2)] 14 (by decide +kernel)
theorem dX10_init_14 : decode cX10_init 14 = .ok (.aload_n 0, 1) := eX10_init_14.1
theorem dX10_init_15 : decode cX10_init 15 = .ok (.bipush 60, 2) := eX10_init_14.2.1
theorem dX10_init_17 : decode cX10_init 17 = .ok (.newarray .long, 2) := d_of (by decide +kernel)
theorem eX10_init_19 : decode cX10_init 19 = .ok (.putfield 18, 3) ∧ decode cX10_init 22 = .ok (.return_, 1) ∧ True := dkl_ok (c := cX10_init) [(.putfield 18, 3), (.return_, 1)] 19 (by decide +kernel)
theorem dX10_init_19 : decode cX10_init 19 = .ok (.putfield 18, 3) := eX10_init_19.1
theorem dX10_init_22 : decode cX10_init 22 = .ok (.return_, 1) := eX10_init_19.2.1
theorem eX10_isMissing_0 : decode cX10_isMissing 0 = .ok (.aload_n 0, 1) ∧ decode cX10_isMissing 1 = .ok (.getfield 15, 3) ∧ decode cX10_isMissing 4 = .ok (.iconst (-1), 1) ∧ decode cX10_isMissing 5 = .ok (.if_icmp .ne 7, 3) ∧ decode cX10_isMissing 8 = .ok (.iconst 1, 1) ∧ decode cX10_isMissing 9 = .ok (.goto 4, 3) ∧ decode cX10_isMissing 12 = .ok (.iconst 0, 1) ∧ decode cX10_isMissing 13 = .ok (.ireturn, 1) ∧ True := dkl_ok (c := cX10_isMissing) [(.aload_n 0, 1), (.getfield 15, 3), (.iconst (-1), 1), (.if_icmp .ne 7, 3), (.iconst 1, 1), (.goto 4, 3), (.iconst 0, 1), (.ireturn, 1)] 0 (by decide +kernel)
theorem dX10_isMissing_0 : decode cX10_isMissing 0 = .ok (.aload_n 0, 1) := eX10_isMissing_0.1
theorem dX10_isMissing_1 : decode cX10_isMissing 1 = .ok (.getfield 15, 3) := eX10_isMissing_0.2.1
theorem dX10_isMissing_4 : decode cX10_isMissing 4 = .ok (.iconst (-1), 1) := eX10_isMissing_0.2.2.1
theorem dX10_isMissing_5 : decode cX10_isMissing 5 = .ok (.if_icmp .ne 7, 3) := eX10_isMissing_0.2.2.2.1
theorem dX10_isMissing_8 : decode cX10_isMissing 8 = .ok (.iconst 1, 1) := eX10_isMissing_0.2.2.2.2.1
theorem dX10_isMissing_9 : decode cX10_isMissing 9 = .ok (.goto 4, 3) := eX10_isMissing_0.2.2.2.2.2.1
theorem dX10_isMissing_12 : decode cX10_isMissing 12 = .ok (.iconst 0, 1) := eX10_isMissing_0.2.2.2.2.2.2.1
theorem dX10_isMissing_13 : decode cX10_isMissing 13 = .ok (.ireturn, 1) := eX10_isMissing_0.2.2.2.2.2.2.2.1
theorem eX10_hasPlaces_0 : decode cX10_hasPlaces 0 = .ok (.iload_n 2, 1) ∧ decode cX10_hasPlaces 1 = .ok (.ifCond .lt 29, 3) ∧ decode cX10_hasPlaces 4 = .ok (.iload_n 2, 1) ∧ decode cX10_hasPlaces 5 = .ok (.aload_n 0, 1) ∧ decode cX10_hasPlaces 6 = .ok (.getfield 15, 3) ∧ decode cX10_hasPlaces 9 = .ok (.if_icmp .gt 21, 3) ∧ decode cX10_hasPlaces 12 = .ok (.iload_n 1, 1) ∧ decode cX10_hasPlaces 13 = .ok (.ifCond .lt 17, 3) ∧ True := dkl_ok (c := cX10_hasPlaces) [(.iload_n 2, 1), (.ifCond .lt 29, 3), (.iload_n 2, 1), (.aload_n 0, 1), (.getfield 15, 3), (.if_icmp .gt 21, 3), (.iload_n 1, 1), (.ifCond .lt 17, 3)] 0 (by decide +kernel)
theorem dX10_hasPlaces_0 : decode cX10_hasPlaces 0 = .ok (.iload_n 2, 1) := eX10_hasPlaces_0.1
theorem dX10_hasPlaces_1 : decode cX10_hasPlaces 1 = .ok (.ifCond .lt 29, 3) := eX10_hasPlaces_0.2.1
theorem dX10_hasPlaces_4 : decode cX10_hasPlaces 4 = .ok (.iload_n 2, 1) := eX10_hasPlaces_0.2.2.1
theorem dX10_hasPlaces_5 : decode cX10_hasPlaces 5 = .ok (.aload_n 0, 1) := eX10_hasPlaces_0.2.2.2.1
theorem dX10_hasPlaces_6 : decode cX10_hasPlaces 6 = .ok (.getfield 15, 3) := eX10_hasPlaces_0.2.2.2.2.1
theorem dX10_hasPlaces_9 : decode cX10_hasPlaces 9 = .ok (.if_icmp .gt 21, 3) := eX10_hasPlaces_0.2.2.2.2.2.1
theorem dX10_hasPlaces_12 : decode cX10_hasPlaces 12 = .ok (.iload_n 1, 1) := eX10_hasPlaces_0.2.2.2.2.2.2.1
theorem dX10_hasPlaces_13 : decode cX10_hasPlaces 13 = .ok (.ifCond .lt 17, 3) := eX10_hasPlaces_0.2.2.2.2.2.2.2.1
theorem eX10_hasPlaces_16 : decode cX10_hasPlaces 16 = .ok (.iload_n 1, 1) ∧ decode cX10_hasPlaces 17 = .ok (.aload_n 0, 1) ∧ decode cX10_hasPlaces 18 = .ok (.getfield 15, 3) ∧ decode cX10_hasPlaces 21 = .ok (.iload_n 2, 1) ∧ decode cX10_hasPlaces 22 = .ok (.isub, 1) ∧ decode cX10_hasPlaces 23 = .ok (.if_icmp .gt 7, 3) ∧ decode cX10_hasPlaces 26 = .ok (.iconst 1, 1) ∧ decode cX10_hasPlaces 27 = .ok (.goto 4, 3) ∧ True := dkl_ok (c := cX10_hasPlaces) [(.iload_n 1, 1), (.aload_n 0, 1), (.getfield 15, 3), (.iload_n 2, 1), (.isub, 1), (.if_icmp .gt 7, 3), (.iconst 1, 1), (.goto 4, 3)] 16 (by decide +kernel)
theorem dX10_hasPlaces_16 : decode cX10_hasPlaces 16 = .ok (.iload_n 1, 1) := eX10_hasPlaces_16.1
theorem dX10_hasPlaces_17 : decode cX10_hasPlaces 17 = .ok (.aload_n 0, 1) := eX10_hasPlaces_16.2.1
theorem dX10_hasPlaces_18 : decode cX10_hasPlaces 18 = .ok (.getfield 15, 3) := eX10_hasPlaces_16.2.2.1
theorem dX10_hasPlaces_21 : decode cX10_hasPlaces 21 = .ok (.iload_n 2, 1) := eX10_hasPlaces_16.2.2.2.1
theorem dX10_hasPlaces_22 : decode cX10_hasPlaces 22 = .ok (.isub, 1) := eX10_hasPlaces_16.2.2.2.2.1
theorem dX10_hasPlaces_23 : decode cX10_hasPlaces 23 = .ok (.if_icmp .gt 7, 3) := eX10_hasPlaces_16.2.2.2.2.2.1
theorem dX10_hasPlaces_26 : decode cX10_hasPlaces 26 = .ok (.iconst 1, 1) := eX10_hasPlaces_16.2.2.2.2.2.2.1
theorem dX10_hasPlaces_27 : decode cX10_hasPlaces 27 = .ok (.goto 4, 3) := eX10_hasPlaces_16.2.2.2.2.2.2.2.1
theorem eX10_hasPlaces_30 : decode cX10_hasPlaces 30 = .ok (.iconst 0, 1) ∧ decode cX10_hasPlaces 31 = .ok (.ireturn, 1) ∧ True := dkl_ok (c := cX10_hasPlaces) [(.iconst 0, 1), (.ireturn, 1)] 30 (by decide +kernel)
theorem dX10_hasPlaces_30 : decode cX10_hasPlaces 30 = .ok (.iconst 0, 1) := eX10_hasPlaces_30.1
theorem dX10_hasPlaces_31 : decode cX10_hasPlaces 31 = .ok (.ireturn, 1) := eX10_hasPlaces_30.2.1
theorem eX10_make_0 : decode cX10_make 0 = .ok (.aload_n 0, 1) ∧ decode cX10_make 1 = .ok (.iload_n 1, 1) ∧ decode cX10_make 2 = .ok (.putfield 9, 3) ∧ decode cX10_make 5 = .ok (.aload_n 0, 1) ∧ decode cX10_make 6 = .ok (.iconst 0, 1) ∧ decode cX10_make 7 = .ok (.iload_n 2, 1) ∧ decode cX10_make 8 = .ok (.bipush 60, 2) ∧ decode cX10_make 10 = .ok (.invokestatic 22, 3) ∧ True := dkl_ok (c := cX10_make) [(.aload_n 0, 1), (.iload_n 1, 1), (.putfield 9, 3), (.aload_n 0, 1), (.iconst 0, 1), (.iload_n 2, 1), (.bipush 60, 2), (.invokestatic 22, 3)] 0 (by decide +kernel)
theorem dX10_make_0 : decode cX10_make 0 = .ok (.aload_n 0, 1) := eX10_make_0.1
theorem dX10_make_1 : decode cX10_make 1 = .ok (.iload_n 1, 1) := eX10_make_0.2.1
theorem dX10_make_2 : decode cX10_make 2 = .ok (.putfield 9, 3) := eX10_make_0.2.2.1
theorem dX10_make_5 : decode cX10_make 5 = .ok (.aload_n 0, 1) := eX10_make_0.2.2.2.1
theorem dX10_make_6 : decode cX10_make 6 = .ok (.iconst 0, 1) := eX10_make_0.2.2.2.2.1
theorem dX10_make_7 : decode cX10_make 7 = .ok (.iload_n 2, 1) := eX10_make_0.2.2.2.2.2.1
theorem dX10_make_8 : decode cX10_make 8 = .ok (.bipush 60, 2) := eX10_make_0.2.2.2.2.2.2.1
theorem dX10_make_10 : decode cX10_make 10 = .ok (.invokestatic 22, 3) := eX10_make_0.2.2.2.2.2.2.2.1
theorem eX10_make_13 : decode cX10_make 13 = .ok (.invokestatic 28, 3) ∧ decode cX10_make 16 = .ok (.putfield 15, 3) ∧ decode cX10_make 19 = .ok (.iconst 0, 1) ∧ decode cX10_make 20 = .ok (.istore_n 3, 1) ∧ decode cX10_make 21 = .ok (.iload_n 3, 1) ∧ decode cX10_make 22 = .ok (.bipush 60, 2) ∧ decode cX10_make 24 = .ok (.if_icmp .ge 16, 3) ∧ decode cX10_make 27 = .ok (.aload_n 0, 1) ∧ True := dkl_ok (c := cX10_make) [(.invokestatic 28, 3), (.putfield 15, 3), (.iconst 0, 1), (.istore_n 3, 1), (.iload_n 3, 1), (.bipush 60, 2), (.if_icmp .ge 16, 3), (.aload_n 0, 1)] 13 (by decide +kernel)
theorem dX10_make_13 : decode cX10_make 13 = .ok (.invokestatic 28, 3) := eX10_make_13.1
theorem dX10_make_16 : decode cX10_make 16 = .ok (.putfield 15, 3) := eX10_make_13.2.1
theorem dX10_make_19 : decode cX10_make 19 = .ok (.iconst 0, 1) := eX10_make_13.2.2.1
theorem dX10_make_20 : decode cX10_make 20 = .ok (.istore_n 3, 1) := eX10_make_13.2.2.2.1
theorem dX10_make_21 : decode cX10_make 21 = .ok (.iload_n 3, 1) := eX10_make_13.2.2.2.2.1
theorem dX10_make_22 : decode cX10_make 22 = .ok (.bipush 60, 2) := eX10_make_13.2.2.2.2.2.1
theorem dX10_make_24 : decode cX10_make 24 = .ok (.if_icmp .ge 16, 3) := eX10_make_13.2.2.2.2.2.2.1
theorem dX10_make_27 : decode cX10_make 27 = .ok (.aload_n 0, 1) := eX10_make_13.2.2.2.2.2.2.2.1
theorem eX10_make_28 : decode cX10_make 28 = .ok (.getfield 18, 3) ∧ decode cX10_make 31 = .ok (.iload_n 3, 1) ∧ decode cX10_make 32 = .ok (.lconst 0, 1) ∧ decode cX10_make 33 = .ok (.lastore, 1) ∧ decode cX10_make 34 = .ok (.iinc 3 1, 3) ∧ decode cX10_make 37 = .ok (.goto (-16), 3) ∧ decode cX10_make 40 = .ok (.return_, 1) ∧ True := dkl_ok (c := cX10_make) [(.getfield 18, 3), (.iload_n 3, 1), (.lconst 0, 1), (.lastore, 1), (.iinc 3 1, 3), (.goto (-16), 3), (.return_, 1)] 28 (by decide +kernel)
theorem dX10_make_28 : decode cX10_make 28 = .ok (.getfield 18, 3) := eX10_make_28.1
theorem dX10_make_31 : decode cX10_make 31 = .ok (.iload_n 3, 1) := eX10_make_28.2.1
theorem dX10_make_32 : decode cX10_make 32 = .ok (.lconst 0, 1) := eX10_make_28.2.2.1
theorem dX10_make_33 : decode cX10_make 33 = .ok (.lastore, 1) := eX10_make_28.2.2.2.1
theorem dX10_make_34 : decode cX10_make 34 = .ok (.iinc 3 1, 3) := eX10_make_28.2.2.2.2.1
theorem dX10_make_37 : decode cX10_make 37 = .ok (.goto (-16), 3) := eX10_make_28.2.2.2.2.2.1
theorem dX10_make_40 : decode cX10_make 40 = .ok (.return_, 1) := eX10_make_28.2.2.2.2.2.2.1
theorem eX10_get_0 : decode cX10_get 0 = .ok (.iload_n 1, 1) ∧ decode cX10_get 1 = .ok (.ifCond .lt 18, 3) ∧ decode cX10_get 4 = .ok (.iload_n 1, 1) ∧ decode cX10_get 5 = .ok (.bipush 60, 2) ∧ decode cX10_get 7 = .ok (.if_icmp .ge 12, 3) ∧ decode cX10_get 10 = .ok (.aload_n 0, 1) ∧ decode cX10_get 11 = .ok (.getfield 18, 3) ∧ decode cX10_get 14 = .ok (.iload_n 1, 1) ∧ True := dkl_ok (c := cX10_get) [(.iload_n 1, 1), (.ifCond .lt 18, 3), (.iload_n 1, 1), (.bipush 60, 2), (.if_icmp .ge 12, 3), (.aload_n 0, 1), (.getfield 18, 3), (.iload_n 1, 1)] 0 (by decide +kernel)
theorem dX10_get_0 : decode cX10_get 0 = .ok (.iload_n 1, 1) := eX10_get_0.1
theorem dX10_get_1 : decode cX10_get 1 = .ok (.ifCond .lt 18, 3) := eX10_get_0.2.1
theorem dX10_get_4 : decode cX10_get 4 = .ok (.iload_n 1, 1) := eX10_get_0.2.2.1
theorem dX10_get_5 : decode cX10_get 5 = .ok (.bipush 60, 2) := eX10_get_0.2.2.2.1
theorem dX10_get_7 : decode cX10_get 7 = .ok (.if_icmp .ge 12, 3) := eX10_get_0.2.2.2.2.1
theorem dX10_get_10 : decode cX10_get 10 = .ok (.aload_n 0, 1) := eX10_get_0.2.2.2.2.2.1
theorem dX10_get_11 : decode cX10_get 11 = .ok (.getfield 18, 3) := eX10_get_0.2.2.2.2.2.2.1
theorem dX10_get_14 : decode cX10_get 14 = .ok (.iload_n 1, 1) := eX10_get_0.2.2.2.2.2.2.2.1
theorem eX10_get_15 : decode cX10_get 15 = .ok (.laload, 1) ∧ decode cX10_get 16 = .ok (.goto 4, 3) ∧ decode cX10_get 19 = .ok (.lconst 0, 1) ∧ decode cX10_get 20 = .ok (.lreturn, 1) ∧ True := dkl_ok (c := cX10_get) [(.laload, 1), (.goto 4, 3), (.lconst 0, 1), (.lreturn, 1)] 15 (by decide +kernel)
theorem dX10_get_15 : decode cX10_get 15 = .ok (.laload, 1) := eX10_get_15.1
theorem dX10_get_16 : decode cX10_get 16 = .ok (.goto 4, 3) := eX10_get_15.2.1
theorem dX10_get_19 : decode cX10_get 19 = .ok (.lconst 0, 1) := eX10_get_15.2.2.1
theorem dX10_get_20 : decode cX10_get 20 = .ok (.lreturn, 1) := eX10_get_15.2.2.2.1
theorem eX10_put_0 : decode cX10_put 0 = .ok (.iload_n 1, 1) ∧ decode cX10_put 1 = .ok (.ifCond .lt 20, 3) ∧ decode cX10_put 4 = .ok (.iload_n 1, 1) ∧ decode cX10_put 5 = .ok (.bipush 60, 2) ∧ decode cX10_put 7 = .ok (.if_icmp .ge 14, 3) ∧ decode cX10_put 10 = .ok (.aload_n 0, 1) ∧ decode cX10_put 11 = .ok (.getfield 18, 3) ∧ decode cX10_put 14 = .ok (.iload_n 1, 1) ∧ True := dkl_ok (c := cX10_put) [(.iload_n 1, 1), (.ifCond .lt 20, 3), (.iload_n 1, 1), (.bipush 60, 2), (.if_icmp .ge 14, 3), (.aload_n 0, 1), (.getfield 18, 3), (.iload_n 1, 1)] 0 (by decide +kernel)
theorem dX10_put_0 : decode cX10_put 0 = .ok (.iload_n 1, 1) := eX10_put_0.1
theorem dX10_put_1 : decode cX10_put 1 = .ok (.ifCond .lt 20, 3) := eX10_put_0.2.1
theorem dX10_put_4 : decode cX10_put 4 = .ok (.iload_n 1, 1) := eX10_put_0.2.2.1
theorem dX10_put_5 : decode cX10_put 5 = .ok (.bipush 60, 2) := eX10_put_0.2.2.2.1
theorem dX10_put_7 : decode cX10_put 7 = .ok (.if_icmp .ge 14, 3) := eX10_put_0.2.2.2.2.1
theorem dX10_put_10 : decode cX10_put 10 = .ok (.aload_n 0, 1) := eX10_put_0.2.2.2.2.2.1
theorem dX10_put_11 : decode cX10_put 11 = .ok (.getfield 18, 3) := eX10_put_0.2.2.2.2.2.2.1
theorem dX10_put_14 : decode cX10_put 14 = .ok (.iload_n 1, 1) := eX10_put_0.2.2.2.2.2.2.2.1
theorem eX10_put_15 : decode cX10_put 15 = .ok (.aload_n 0, 1) ∧ decode cX10_put 16 = .ok (.lload_n 2, 1) ∧ decode cX10_put 17 = .ok (.invokevirtual 31, 3) ∧ decode cX10_put 20 = .ok (.lastore, 1) ∧ decode cX10_put 21 = .ok (.return_, 1) ∧ True := dkl_ok (c := cX10_put) [(.aload_n 0, 1), (.lload_n 2, 1), (.invokevirtual 31, 3), (.lastore, 1), (.return_, 1)] 15 (by decide +kernel)
theorem dX10_put_15 : decode cX10_put 15 = .ok (.aload_n 0, 1) := eX10_put_15.1
theorem dX10_put_16 : decode cX10_put 16 = .ok (.lload_n 2, 1) := eX10_put_15.2.1
theorem dX10_put_17 : decode cX10_put 17 = .ok (.invokevirtual 31, 3) := eX10_put_15.2.2.1
theorem dX10_put_20 : decode cX10_put 20 = .ok (.lastore, 1) := eX10_put_15.2.2.2.1
theorem dX10_put_21 : decode cX10_put 21 = .ok (.return_, 1) := eX10_put_15.2.2.2.2.1
theorem eX10_cut_0 : decode cX10_cut 0 = .ok (.aload_n 0, 1) ∧ decode cX10_cut 1 = .ok (.getfield 9, 3) ∧ True := dkl_ok (c := cX10_cut) [(.aload_n 0, 1), (.getfield 9, 3)] 0 (by decide +kernel)
theorem dX10_cut_0 : decode cX10_cut 0 = .ok (.aload_n 0, 1) := eX10_cut_0.1
theorem dX10_cut_1 : decode cX10_cut 1 = .ok (.getfield 9, 3) := eX10_cut_0.2.1
theorem dX10_cut_4 : decode cX10_cut 4 = .ok (.tableswitch 42 0 2 #[28, 33, 38], 28) := d_of (by decide +kernel)
theorem eX10_cut_32 : decode cX10_cut 32 = .ok (.lload_n 1, 1) ∧ decode cX10_cut 33 = .ok (.l2i, 1) ∧ decode cX10_cut 34 = .ok (.i2b, 1) ∧ decode cX10_cut 35 = .ok (.i2l, 1) ∧ decode cX10_cut 36 = .ok (.lreturn, 1) ∧ decode cX10_cut 37 = .ok (.lload_n 1, 1) ∧ decode cX10_cut 38 = .ok (.l2i, 1) ∧ decode cX10_cut 39 = .ok (.i2s, 1) ∧ True := dkl_ok (c := cX10_cut) [(.lload_n 1, 1), (.l2i, 1), (.i2b, 1), (.i2l, 1), (.lreturn, 1), (.lload_n 1, 1), (.l2i, 1), (.i2s, 1)] 32 (by decide +kernel)
theorem dX10_cut_32 : decode cX10_cut 32 = .ok (.lload_n 1, 1) := eX10_cut_32.1
theorem dX10_cut_33 : decode cX10_cut 33 = .ok (.l2i, 1) := eX10_cut_32.2.1
theorem dX10_cut_34 : decode cX10_cut 34 = .ok (.i2b, 1) := eX10_cut_32.2.2.1
theorem dX10_cut_35 : decode cX10_cut 35 = .ok (.i2l, 1) := eX10_cut_32.2.2.2.1
theorem dX10_cut_36 : decode cX10_cut 36 = .ok (.lreturn, 1) := eX10_cut_32.2.2.2.2.1
theorem dX10_cut_37 : decode cX10_cut 37 = .ok (.lload_n 1, 1) := eX10_cut_32.2.2.2.2.2.1
theorem dX10_cut_38 : decode cX10_cut 38 = .ok (.l2i, 1) := eX10_cut_32.2.2.2.2.2.2.1
theorem dX10_cut_39 : decode cX10_cut 39 = .ok (.i2s, 1) := eX10_cut_32.2.2.2.2.2.2.2.1
theorem eX10_cut_40 : decode cX10_cut 40 = .ok (.i2l, 1) ∧ decode cX10_cut 41 = .ok (.lreturn, 1) ∧ decode cX10_cut 42 = .ok (.lload_n 1, 1) ∧ decode cX10_cut 43 = .ok (.l2i, 1) ∧ decode cX10_cut 44 = .ok (.i2l, 1) ∧ decode cX10_cut 45 = .ok (.lreturn, 1) ∧ decode cX10_cut 46 = .ok (.lload_n 1, 1) ∧ decode cX10_cut 47 = .ok (.lreturn, 1) ∧ True := dkl_ok (c := cX10_cut) [(.i2l, 1), (.lreturn, 1), (.lload_n 1, 1), (.l2i, 1), (.i2l, 1), (.lreturn, 1), (.lload_n 1, 1), (.lreturn, 1)] 40 (by decide +kernel)
theorem dX10_cut_40 : decode cX10_cut 40 = .ok (.i2l, 1) := eX10_cut_40.1
theorem dX10_cut_41 : decode cX10_cut 41 = .ok (.lreturn, 1) := eX10_cut_40.2.1
theorem dX10_cut_42 : decode cX10_cut 42 = .ok (.lload_n 1, 1) := eX10_cut_40.2.2.1
theorem dX10_cut_43 : decode cX10_cut 43 = .ok (.l2i, 1) := eX10_cut_40.2.2.2.1
theorem dX10_cut_44 : decode cX10_cut 44 = .ok (.i2l, 1) := eX10_cut_40.2.2.2.2.1
theorem dX10_cut_45 : decode cX10_cut 45 = .ok (.lreturn, 1) := eX10_cut_40.2.2.2.2.2.1
theorem dX10_cut_46 : decode cX10_cut 46 = .ok (.lload_n 1, 1) := eX10_cut_40.2.2.2.2.2.2.1
theorem dX10_cut_47 : decode cX10_cut 47 = .ok (.lreturn, 1) := eX10_cut_40.2.2.2.2.2.2.2.1
theorem eX10_copyFrom_0 : decode cX10_copyFrom 0 = .ok (.aload_n 1, 1) ∧ decode cX10_copyFrom 1 = .ok (.iload_n 2, 1) ∧ decode cX10_copyFrom 2 = .ok (.iload 4, 2) ∧ decode cX10_copyFrom 4 = .ok (.invokevirtual 35, 3) ∧ decode cX10_copyFrom 7 = .ok (.ifCond .eq 28, 3) ∧ decode cX10_copyFrom 10 = .ok (.aload_n 0, 1) ∧ decode cX10_copyFrom 11 = .ok (.iload_n 3, 1) ∧ decode cX10_copyFrom 12 = .ok (.iload 4, 2) ∧ True := dkl_ok (c := cX10_copyFrom) [(.aload_n 1, 1), (.iload_n 2, 1), (.iload 4, 2), (.invokevirtual 35, 3), (.ifCond .eq 28, 3), (.aload_n 0, 1), (.iload_n 3, 1), (.iload 4, 2)] 0 (by decide +kernel)
theorem dX10_copyFrom_0 : decode cX10_copyFrom 0 = .ok (.aload_n 1, 1) := eX10_copyFrom_0.1
theorem dX10_copyFrom_1 : decode cX10_copyFrom 1 = .ok (.iload_n 2, 1) := eX10_copyFrom_0.2.1
theorem dX10_copyFrom_2 : decode cX10_copyFrom 2 = .ok (.iload 4, 2) := eX10_copyFrom_0.2.2.1
theorem dX10_copyFrom_4 : decode cX10_copyFrom 4 = .ok (.invokevirtual 35, 3) := eX10_copyFrom_0.2.2.2.1
theorem dX10_copyFrom_7 : decode cX10_copyFrom 7 = .ok (.ifCond .eq 28, 3) := eX10_copyFrom_0.2.2.2.2.1
theorem dX10_copyFrom_10 : decode cX10_copyFrom 10 = .ok (.aload_n 0, 1) := eX10_copyFrom_0.2.2.2.2.2.1
theorem dX10_copyFrom_11 : decode cX10_copyFrom 11 = .ok (.iload_n 3, 1) := eX10_copyFrom_0.2.2.2.2.2.2.1
theorem dX10_copyFrom_12 : decode cX10_copyFrom 12 = .ok (.iload 4, 2) := eX10_copyFrom_0.2.2.2.2.2.2.2.1
theorem eX10_copyFrom_14 : decode cX10_copyFrom 14 = .ok (.invokevirtual 35, 3) ∧ decode cX10_copyFrom 17 = .ok (.ifCond .eq 18, 3) ∧ decode cX10_copyFrom 20 = .ok (.aload_n 1, 1) ∧ decode cX10_copyFrom 21 = .ok (.getfield 18, 3) ∧ decode cX10_copyFrom 24 = .ok (.iload_n 2, 1) ∧ decode cX10_copyFrom 25 = .ok (.aload_n 0, 1) ∧ decode cX10_copyFrom 26 = .ok (.getfield 18, 3) ∧ decode cX10_copyFrom 29 = .ok (.iload_n 3, 1) ∧ True := dkl_ok (c := cX10_copyFrom) [(.invokevirtual 35, 3), (.ifCond .eq 18, 3), (.aload_n 1, 1), (.getfield 18, 3), (.iload_n 2, 1), (.aload_n 0, 1), (.getfield 18, 3), (.iload_n 3, 1)] 14 (by decide +kernel)
theorem dX10_copyFrom_14 : decode cX10_copyFrom 14 = .ok (.invokevirtual 35, 3) := eX10_copyFrom_14.1
theorem dX10_copyFrom_17 : decode cX10_copyFrom 17 = .ok (.ifCond .eq 18, 3) := eX10_copyFrom_14.2.1
theorem dX10_copyFrom_20 : decode cX10_copyFrom 20 = .ok (.aload_n 1, 1) := eX10_copyFrom_14.2.2.1
theorem dX10_copyFrom_21 : decode cX10_copyFrom 21 = .ok (.getfield 18, 3) := eX10_copyFrom_14.2.2.2.1
theorem dX10_copyFrom_24 : decode cX10_copyFrom 24 = .ok (.iload_n 2, 1) := eX10_copyFrom_14.2.2.2.2.1
theorem dX10_copyFrom_25 : decode cX10_copyFrom 25 = .ok (.aload_n 0, 1) := eX10_copyFrom_14.2.2.2.2.2.1
theorem dX10_copyFrom_26 : decode cX10_copyFrom 26 = .ok (.getfield 18, 3) := eX10_copyFrom_14.2.2.2.2.2.2.1
theorem dX10_copyFrom_29 : decode cX10_copyFrom 29 = .ok (.iload_n 3, 1) := eX10_copyFrom_14.2.2.2.2.2.2.2.1
theorem eX10_copyFrom_30 : decode cX10_copyFrom 30 = .ok (.iload 4, 2) ∧ decode cX10_copyFrom 32 = .ok (.invokestatic 39, 3) ∧ decode cX10_copyFrom 35 = .ok (.return_, 1) ∧ True := dkl_ok (c := cX10_copyFrom) [(.iload 4, 2), (.invokestatic 39, 3), (.return_, 1)] 30 (by decide +kernel)
theorem dX10_copyFrom_30 : decode cX10_copyFrom 30 = .ok (.iload 4, 2) := eX10_copyFrom_30.1
theorem dX10_copyFrom_32 : decode cX10_copyFrom 32 = .ok (.invokestatic 39, 3) := eX10_copyFrom_30.2.1
theorem dX10_copyFrom_35 : decode cX10_copyFrom 35 = .ok (.return_, 1) := eX10_copyFrom_30.2.2.1
theorem eX11_init_0 : decode cX11_init 0 = .ok (.aload_n 0, 1) ∧ decode cX11_init 1 = .ok (.invokespecial 3, 3) ∧ decode cX11_init 4 = .ok (.aload_n 0, 1) ∧ decode cX11_init 5 = .ok (.iconst 0, 1) ∧ decode cX11_init 6 = .ok (.putfield 9, 3) ∧ decode cX11_init 9 = .ok (.aload_n 0, 1) ∧ decode cX11_init 10 = .ok (.lconst 0, 1) ∧ decode cX11_init 11 = .ok (.putfield 13, 3) ∧ True := dkl_ok (c := cX11_init) [(.aload_n 0, 1), (.invokespecial 3, 3), (.aload_n 0, 1), (.iconst 0, 1), (.putfield 9, 3), (.aload_n 0, 1), (.lconst 0, 1), (.putfield 13, 3)] 0 (by decide +kernel)
theorem dX11_init_0 : decode cX11_init 0 = .ok (.aload_n 0, 1) := eX11_init_0.1
theorem dX11_init_1 : decode cX11_init 1 = .ok (.invokespecial 3, 3) := eX11_init_0.2.1
theorem dX11_init_4 : decode cX11_init 4 = .ok (.aload_n 0, 1) := eX11_init_0.2.2.1
theorem dX11_init_5 : decode cX11_init 5 = .ok (.iconst 0, 1) := eX11_init_0.2.2.2.1
theorem dX11_init_6 : decode cX11_init 6 = .ok (.putfield 9, 3) := eX11_init_0.2.2.2.2.1
theorem dX11_init_9 : decode cX11_init 9 = .ok (.aload_n 0, 1) := eX11_init_0.2.2.2.2.2.1
theorem dX11_init_10 : decode cX11_init 10 = .ok (.lconst 0, 1) := eX11_init_0.2.2.2.2.2.2.1
theorem dX11_init_11 : decode cX11_init 11 = .ok (.putfield 13, 3) := eX11_init_0.2.2.2.2.2.2.2.1
theorem eX11_init_14 : decode cX11_init 14 = .ok (.aload_n 0, 1) ∧ decode cX11_init 15 = .ok (.lconst 1, 1) ∧ decode cX11_init 16 = .ok (.putfield 17, 3) ∧ decode cX11_init 19 = .ok (.aload_n 0, 1) ∧ decode cX11_init 20 = .ok (.iconst 4, 1) ∧ decode cX11_init 21 = .ok (.anewarray 20, 3) ∧ decode cX11_init 24 = .ok (.putfield 22, 3) ∧ decode cX11_init 27 = .ok (.aload_n 0, 1) ∧ True := dkl_ok (c := cX11_init) [(.aload_n 0, 1), (.lconst 1, 1), (.putfield 17, 3), (.aload_n 0, 1), (.iconst 4, 1), (.anewarray 20, 3), (.putfield 22, 3), (.aload_n 0, 1)] 14 (by decide +kernel)
theorem dX11_init_14 : decode cX11_init 14 = .ok (.aload_n 0, 1) := eX11_init_14.1
theorem dX11_init_15 : decode cX11_init 15 = .ok (.lconst 1, 1) := eX11_init_14.2.1
theorem dX11_init_16 : decode cX11_init 16 = .ok (.putfield 17, 3) := eX11_init_14.2.2.1
theorem dX11_init_19 : decode cX11_init 19 = .ok (.aload_n 0, 1) := eX11_init_14.2.2.2.1
theorem dX11_init_20 : decode cX11_init 20 = .ok (.iconst 4, 1) := eX11_init_14.2.2.2.2.1
theorem dX11_init_21 : decode cX11_init 21 = .ok (.anewarray 20, 3) := eX11_init_14.2.2.2.2.2.1
theorem dX11_init_24 : decode cX11_init 24 = .ok (.putfield 22, 3) := eX11_init_14.2.2.2.2.2.2.1
theorem dX11_init_27 : decode cX11_init 27 = .ok (.aload_n 0, 1) := eX11_init_14.2.2.2.2.2.2.2.1
theorem eX11_init_28 : decode cX11_init 28 = .ok (.sipush 900, 3) ∧ True := dkl_ok (c := cX11_init) [(.sipush 900, 3)] 28 (by decide +kernel)
theorem dX11_init_28 : decode cX11_init 28 = .ok (.sipush 900, 3) := eX11_init_28.1
theorem dX11_init_31 : decode cX11_init 31 = .ok (.newarray .byte, 2) := d_of (by decide +kernel)
theorem eX11_init_33 : decode cX11_init 33 = .ok (.putfield 26, 3) ∧ decode cX11_init 36 = .ok (.aload_n 0, 1) ∧ decode cX11_init 37 = .ok (.iconst 0, 1) ∧ decode cX11_init 38 = .ok (.putfield 30, 3) ∧ decode cX11_init 41 = .ok (.aload_n 0, 1) ∧ decode cX11_init 42 = .ok (.iconst (-1), 1) ∧ decode cX11_init 43 = .ok (.putfield 33, 3) ∧ decode cX11_init 46 = .ok (.aload_n 0, 1) ∧ True := dkl_ok (c := cX11_init) [(.putfield 26, 3), (.aload_n 0, 1), (.iconst 0, 1), (.putfield 30, 3), (.aload_n 0, 1), (.iconst (-1), 1), (.putfield 33, 3), (.aload_n 0, 1)] 33 (by decide +kernel)
theorem dX11_init_33 : decode cX11_init 33 = .ok (.putfield 26, 3) := eX11_init_33.1
theorem dX11_init_36 : decode cX11_init 36 = .ok (.aload_n 0, 1) := eX11_init_33.2.1
theorem dX11_init_37 : decode cX11_init 37 = .ok (.iconst 0, 1) := eX11_init_33.2.2.1
theorem dX11_init_38 : decode cX11_init 38 = .ok (.putfield 30, 3) := eX11_init_33.2.2.2.1
theorem dX11_init_41 : decode cX11_init 41 = .ok (.aload_n 0, 1) := eX11_init_33.2.2.2.2.1
theorem dX11_init_42 : decode cX11_init 42 = .ok (.iconst (-1), 1) := eX11_init_33.2.2.2.2.2.1
theorem dX11_init_43 : decode cX11_init 43 = .ok (.putfield 33, 3) := eX11_init_33.2.2.2.2.2.2.1
theorem dX11_init_46 : decode cX11_init 46 = .ok (.aload_n 0, 1) := eX11_init_33.2.2.2.2.2.2.2.1
theorem eX11_init_47 : decode cX11_init 47 = .ok (.iconst (-1), 1) ∧ decode cX11_init 48 = .ok (.putfield 36, 3) ∧ decode cX11_init 51 = .ok (.aload_n 0, 1) ∧ decode cX11_init 52 = .ok (.new 39, 3) ∧ decode cX11_init 55 = .ok (.dup, 1) ∧ decode cX11_init 56 = .ok (.invokespecial 41, 3) ∧ decode cX11_init 59 = .ok (.putfield 42, 3) ∧ decode cX11_init 62 = .ok (.aload_n 0, 1) ∧ True := dkl_ok (c := cX11_init) [(.iconst (-1), 1), (.putfield 36, 3), (.aload_n 0, 1), (.new 39, 3), (.dup, 1), (.invokespecial 41, 3), (.putfield 42, 3), (.aload_n 0, 1)] 47 (by decide +kernel)
theorem dX11_init_47 : decode cX11_init 47 = .ok (.iconst (-1), 1) := eX11_init_47.1
theorem dX11_init_48 : decode cX11_init 48 = .ok (.putfield 36, 3) := eX11_init_47.2.1
theorem dX11_init_51 : decode cX11_init 51 = .ok (.aload_n 0, 1) := eX11_init_47.2.2.1
theorem dX11_init_52 : decode cX11_init 52 = .ok (.new 39, 3) := eX11_init_47.2.2.2.1
theorem dX11_init_55 : decode cX11_init 55 = .ok (.dup, 1) := eX11_init_47.2.2.2.2.1
theorem dX11_init_56 : decode cX11_init 56 = .ok (.invokespecial 41, 3) := eX11_init_47.2.2.2.2.2.1
theorem dX11_init_59 : decode cX11_init 59 = .ok (.putfield 42, 3) := eX11_init_47.2.2.2.2.2.2.1
theorem dX11_init_62 : decode cX11_init 62 = .ok (.aload_n 0, 1) := eX11_init_47.2.2.2.2.2.2.2.1
theorem eX11_init_63 : decode cX11_init 63 = .ok (.new 39, 3) ∧ decode cX11_init 66 = .ok (.dup, 1) ∧ decode cX11_init 67 = .ok (.invokespecial 41, 3) ∧ decode cX11_init 70 = .ok (.putfield 46, 3) ∧ decode cX11_init 73 = .ok (.aload_n 0, 1) ∧ decode cX11_init 74 = .ok (.iconst 3, 1) ∧ decode cX11_init 75 = .ok (.anewarray 39, 3) ∧ decode cX11_init 78 = .ok (.putfield 49, 3) ∧ True := dkl_ok (c := cX11_init) [(.new 39, 3), (.dup, 1), (.invokespecial 41, 3), (.putfield 46, 3), (.aload_n 0, 1), (.iconst 3, 1), (.anewarray 39, 3), (.putfield 49, 3)] 63 (by decide +kernel)
theorem dX11_init_63 : decode cX11_init 63 = .ok (.new 39, 3) := eX11_init_63.1
theorem dX11_init_66 : decode cX11_init 66 = .ok (.dup, 1) := eX11_init_63.2.1
theorem dX11_init_67 : decode cX11_init 67 = .ok (.invokespecial 41, 3) := eX11_init_63.2.2.1
theorem dX11_init_70 : decode cX11_init 70 = .ok (.putfield 46, 3) := eX11_init_63.2.2.2.1
theorem dX11_init_73 : decode cX11_init 73 = .ok (.aload_n 0, 1) := eX11_init_63.2.2.2.2.1
theorem dX11_init_74 : decode cX11_init 74 = .ok (.iconst 3, 1) := eX11_init_63.2.2.2.2.2.1
theorem dX11_init_75 : decode cX11_init 75 = .ok (.anewarray 39, 3) := eX11_init_63.2.2.2.2.2.2.1
theorem dX11_init_78 : decode cX11_init 78 = .ok (.putfield 49, 3) := eX11_init_63.2.2.2.2.2.2.2.1
theorem eX11_init_81 : decode cX11_init 81 = .ok (.aload_n 0, 1) ∧ decode cX11_init 82 = .ok (.iconst 0, 1) ∧ decode cX11_init 83 = .ok (.putfield 53, 3) ∧ decode cX11_init 86 = .ok (.aload_n 0, 1) ∧ decode cX11_init 87 = .ok (.new 56, 3) ∧ decode cX11_init 90 = .ok (.dup, 1) ∧ decode cX11_init 91 = .ok (.invokespecial 58, 3) ∧ decode cX11_init 94 = .ok (.putfield 59, 3) ∧ True := dkl_ok (c := cX11_init) [(.aload_n 0, 1), (.iconst 0, 1), (.putfield 53, 3), (.aload_n 0, 1), (.new 56, 3), (.dup, 1), (.invokespecial 58, 3), (.putfield 59, 3)] 81 (by decide +kernel)
theorem dX11_init_81 : decode cX11_init 81 = .ok (.aload_n 0, 1) := eX11_init_81.1
theorem dX11_init_82 : decode cX11_init 82 = .ok (.iconst 0, 1) := eX11_init_81.2.1
theorem dX11_init_83 : decode cX11_init 83 = .ok (.putfield 53, 3) := eX11_init_81.2.2.1
theorem dX11_init_86 : decode cX11_init 86 = .ok (.aload_n 0, 1) := eX11_init_81.2.2.2.1
theorem dX11_init_87 : decode cX11_init 87 = .ok (.new 56, 3) := eX11_init_81.2.2.2.2.1
theorem dX11_init_90 : decode cX11_init 90 = .ok (.dup, 1) := eX11_init_81.2.2.2.2.2.1
theorem dX11_init_91 : decode cX11_init 91 = .ok (.invokespecial 58, 3) := eX11_init_81.2.2.2.2.2.2.1
theorem dX11_init_94 : decode cX11_init 94 = .ok (.putfield 59, 3) := eX11_init_81.2.2.2.2.2.2.2.1
theorem eX11_init_97 : decode cX11_init 97 = .ok (.aload_n 0, 1) ∧ decode cX11_init 98 = .ok (.new 63, 3) ∧ decode cX11_init 101 = .ok (.dup, 1) ∧ decode cX11_init 102 = .ok (.invokespecial 65, 3) ∧ decode cX11_init 105 = .ok (.putfield 66, 3) ∧ decode cX11_init 108 = .ok (.aload_n 0, 1) ∧ decode cX11_init 109 = .ok (.new 70, 3) ∧ decode cX11_init 112 = .ok (.dup, 1) ∧ True := dkl_ok (c := cX11_init) [(.aload_n 0, 1), (.new 63, 3), (.dup, 1), (.invokespecial 65, 3), (.putfield 66, 3), (.aload_n 0, 1), (.new 70, 3), (.dup, 1)] 97 (by decide +kernel)
theorem dX11_init_97 : decode cX11_init 97 = .ok (.aload_n 0, 1) := eX11_init_97.1
theorem dX11_init_98 : decode cX11_init 98 = .ok (.new 63, 3) := eX11_init_97.2.1
theorem dX11_init_101 : decode cX11_init 101 = .ok (.dup, 1) := eX11_init_97.2.2.1
theorem dX11_init_102 : decode cX11_init 102 = .ok (.invokespecial 65, 3) := eX11_init_97.2.2.2.1
theorem dX11_init_105 : decode cX11_init 105 = .ok (.putfield 66, 3) := eX11_init_97.2.2.2.2.1
theorem dX11_init_108 : decode cX11_init 108 = .ok (.aload_n 0, 1) := eX11_init_97.2.2.2.2.2.1
theorem dX11_init_109 : decode cX11_init 109 = .ok (.new 70, 3) := eX11_init_97.2.2.2.2.2.2.1
theorem dX11_init_112 : decode cX11_init 112 = .ok (.dup, 1) := eX11_init_97.2.2.2.2.2.2.2.1
theorem eX11_init_113 : decode cX11_init 113 = .ok (.invokespecial 72, 3) ∧ decode cX11_init 116 = .ok (.putfield 73, 3) ∧ decode cX11_init 119 = .ok (.aload_n 0, 1) ∧ decode cX11_init 120 = .ok (.new 70, 3) ∧ decode cX11_init 123 = .ok (.dup, 1) ∧ decode cX11_init 124 = .ok (.invokespecial 72, 3) ∧ decode cX11_init 127 = .ok (.putfield 77, 3) ∧ decode cX11_init 130 = .ok (.aload_n 0, 1) ∧ True := dkl_ok (c := cX11_init) [(.invokespecial 72, 3), (.putfield 73, 3), (.aload_n 0, 1), (.new 70, 3), (.dup, 1), (.invokespecial 72, 3), (.putfield 77, 3), (.aload_n 0, 1)] 113 (by decide +kernel)
theorem dX11_init_113 : decode cX11_init 113 = .ok (.invokespecial 72, 3) := eX11_init_113.1
theorem dX11_init_116 : decode cX11_init 116 = .ok (.putfield 73, 3) := eX11_init_113.2.1
theorem dX11_init_119 : decode cX11_init 119 = .ok (.aload_n 0, 1) := eX11_init_113.2.2.1
theorem dX11_init_120 : decode cX11_init 120 = .ok (.new 70, 3) := eX11_init_113.2.2.2.1
theorem dX11_init_123 : decode cX11_init 123 = .ok (.dup, 1) := eX11_init_113.2.2.2.2.1
theorem dX11_init_124 : decode cX11_init 124 = .ok (.invokespecial 72, 3) := eX11_init_113.2.2.2.2.2.1
theorem dX11_init_127 : decode cX11_init 127 = .ok (.putfield 77, 3) := eX11_init_113.2.2.2.2.2.2.1
theorem dX11_init_130 : decode cX11_init 130 = .ok (.aload_n 0, 1) := eX11_init_113.2.2.2.2.2.2.2.1
theorem eX11_init_131 : decode cX11_init 131 = .ok (.iconst 0, 1) ∧ decode cX11_init 132 = .ok (.putfield 80, 3) ∧ decode cX11_init 135 = .ok (.iconst 0, 1) ∧ decode cX11_init 136 = .ok (.istore_n 1, 1) ∧ decode cX11_init 137 = .ok (.iload_n 1, 1) ∧ decode cX11_init 138 = .ok (.iconst 4, 1) ∧ decode cX11_init 139 = .ok (.if_icmp .ge 22, 3) ∧ decode cX11_init 142 = .ok (.aload_n 0, 1) ∧ True := dkl_ok (c := cX11_init) [(.iconst 0, 1), (.putfield 80, 3), (.iconst 0, 1), (.istore_n 1, 1), (.iload_n 1, 1), (.iconst 4, 1), (.if_icmp .ge 22, 3), (.aload_n 0, 1)] 131 (by decide +kernel)
theorem dX11_init_131 : decode cX11_init 131 = .ok (.iconst 0, 1) := eX11_init_131.1
theorem dX11_init_132 : decode cX11_init 132 = .ok (.putfield 80, 3) := eX11_init_131.2.1
theorem dX11_init_135 : decode cX11_init 135 = .ok (.iconst 0, 1) := eX11_init_131.2.2.1
theorem dX11_init_136 : decode cX11_init 136 = .ok (.istore_n 1, 1) := eX11_init_131.2.2.2.1
theorem dX11_init_137 : decode cX11_init 137 = .ok (.iload_n 1, 1) := eX11_init_131.2.2.2.2.1
theorem dX11_init_138 : decode cX11_init 138 = .ok (.iconst 4, 1) := eX11_init_131.2.2.2.2.2.1
theorem dX11_init_139 : decode cX11_init 139 = .ok (.if_icmp .ge 22, 3) := eX11_init_131.2.2.2.2.2.2.1
theorem dX11_init_142 : decode cX11_init 142 = .ok (.aload_n 0, 1) := eX11_init_131.2.2.2.2.2.2.2.1
theorem eX11_init_143 : decode cX11_init 143 = .ok (.getfield 22, 3) ∧ decode cX11_init 146 = .ok (.iload_n 1, 1) ∧ decode cX11_init 147 = .ok (.new 20, 3) ∧ decode cX11_init 150 = .ok (.dup, 1) ∧ decode cX11_init 151 = .ok (.invokespecial 84, 3) ∧ decode cX11_init 154 = .ok (.aastore, 1) ∧ decode cX11_init 155 = .ok (.iinc 1 1, 3) ∧ decode cX11_init 158 = .ok (.goto (-21), 3) ∧ True := dkl_ok (c := cX11_init) [(.getfield 22, 3), (.iload_n 1, 1), (.new 20, 3), (.dup, 1), (.invokespecial 84, 3), (.aastore, 1), (.iinc 1 1, 3), (.goto (-21), 3)] 143 (by decide +kernel)
theorem dX11_init_143 : decode cX11_init 143 = .ok (.getfield 22, 3) := eX11_init_143.1
theorem dX11_init_146 : decode cX11_init 146 = .ok (.iload_n 1, 1) := eX11_init_143.2.1
theorem dX11_init_147 : decode cX11_init 147 = .ok (.new 20, 3) := eX11_init_143.2.2.1
theorem dX11_init_150 : decode cX11_init 150 = .ok (.dup, 1) := eX11_init_143.2.2.2.1
theorem dX11_init_151 : decode cX11_init 151 = .ok (.invokespecial 84, 3) := eX11_init_143.2.2.2.2.1
theorem dX11_init_154 : decode cX11_init 154 = .ok (.aastore, 1) := eX11_init_143.2.2.2.2.2.1
theorem dX11_init_155 : decode cX11_init 155 = .ok (.iinc 1 1, 3) := eX11_init_143.2.2.2.2.2.2.1
theorem dX11_init_158 : decode cX11_init 158 = .ok (.goto (-21), 3) := eX11_init_143.2.2.2.2.2.2.2.1
theorem eX11_init_161 : decode cX11_init 161 = .ok (.iconst 0, 1) ∧ decode cX11_init 162 = .ok (.istore_n 1, 1) ∧ decode cX11_init 163 = .ok (.iload_n 1, 1) ∧ decode cX11_init 164 = .ok (.iconst 3, 1) ∧ decode cX11_init 165 = .ok (.if_icmp .ge 22, 3) ∧ decode cX11_init 168 = .ok (.aload_n 0, 1) ∧ decode cX11_init 169 = .ok (.getfield 49, 3) ∧ decode cX11_init 172 = .ok (.iload_n 1, 1) ∧ True := dkl_ok (c := cX11_init) [(.iconst 0, 1), (.istore_n 1, 1), (.iload_n 1, 1), (.iconst 3, 1), (.if_icmp .ge 22, 3), (.aload_n 0, 1), (.getfield 49, 3), (.iload_n 1, 1)] 161 (by decide +kernel)
theorem dX11_init_161 : decode cX11_init 161 = .ok (.iconst 0, 1) := eX11_init_161.1
theorem dX11_init_162 : decode cX11_init 162 = .ok (.istore_n 1, 1) := eX11_init_161.2.1
theorem dX11_init_163 : decode cX11_init 163 = .ok (.iload_n 1, 1) := eX11_init_161.2.2.1
theorem dX11_init_164 : decode cX11_init 164 = .ok (.iconst 3, 1) := eX11_init_161.2.2.2.1
theorem dX11_init_165 : decode cX11_init 165 = .ok (.if_icmp .ge 22, 3) := eX11_init_161.2.2.2.2.1
theorem dX11_init_168 : decode cX11_init 168 = .ok (.aload_n 0, 1) := eX11_init_161.2.2.2.2.2.1
theorem dX11_init_169 : decode cX11_init 169 = .ok (.getfield 49, 3) := eX11_init_161.2.2.2.2.2.2.1
theorem dX11_init_172 : decode cX11_init 172 = .ok (.iload_n 1, 1) := eX11_init_161.2.2.2.2.2.2.2.1
theorem eX11_init_173 : decode cX11_init 173 = .ok (.new 39, 3) ∧ decode cX11_init 176 = .ok (.dup, 1) ∧ decode cX11_init 177 = .ok (.invokespecial 41, 3) ∧ decode cX11_init 180 = .ok (.aastore, 1) ∧ decode cX11_init 181 = .ok (.iinc 1 1, 3) ∧ decode cX11_init 184 = .ok (.goto (-21), 3) ∧ decode cX11_init 187 = .ok (.return_, 1) ∧ True := dkl_ok (c := cX11_init) [(.new 39, 3), (.dup, 1), (.invokespecial 41, 3), (.aastore, 1), (.iinc 1 1, 3), (.goto (-21), 3), (.return_, 1)] 173 (by decide +kernel)
theorem dX11_init_173 : decode cX11_init 173 = .ok (.new 39, 3) := eX11_init_173.1
theorem dX11_init_176 : decode cX11_init 176 = .ok (.dup, 1) := eX11_init_173.2.1
theorem dX11_init_177 : decode cX11_init 177 = .ok (.invokespecial 41, 3) := eX11_init_173.2.2.1
theorem dX11_init_180 : decode cX11_init 180 = .ok (.aastore, 1) := eX11_init_173.2.2.2.1
theorem dX11_init_181 : decode cX11_init 181 = .ok (.iinc 1 1, 3) := eX11_init_173.2.2.2.2.1
theorem dX11_init_184 : decode cX11_init 184 = .ok (.goto (-21), 3) := eX11_init_173.2.2.2.2.2.1
theorem dX11_init_187 : decode cX11_init 187 = .ok (.return_, 1) := eX11_init_173.2.2.2.2.2.2.1
theorem eX11_status_0 : decode cX11_status 0 = .ok (.aload_n 0, 1) ∧ decode cX11_status 1 = .ok (.getfield 9, 3) ∧ decode cX11_status 4 = .ok (.ireturn, 1) ∧ True := dkl_ok (c := cX11_status) [(.aload_n 0, 1), (.getfield 9, 3), (.ireturn, 1)] 0 (by decide +kernel)
theorem dX11_status_0 : decode cX11_status 0 = .ok (.aload_n 0, 1) := eX11_status_0.1
theorem dX11_status_1 : decode cX11_status 1 = .ok (.getfield 9, 3) := eX11_status_0.2.1
theorem dX11_status_4 : decode cX11_status 4 = .ok (.ireturn, 1) := eX11_status_0.2.2.1
theorem eX11_top_0 : decode cX11_top 0 = .ok (.aload_n 0, 1) ∧ decode cX11_top 1 = .ok (.getfield 13, 3) ∧ decode cX11_top 4 = .ok (.lreturn, 1) ∧ True := dkl_ok (c := cX11_top) [(.aload_n 0, 1), (.getfield 13, 3), (.lreturn, 1)] 0 (by decide +kernel)
theorem dX11_top_0 : decode cX11_top 0 = .ok (.aload_n 0, 1) := eX11_top_0.1
theorem dX11_top_1 : decode cX11_top 1 = .ok (.getfield 13, 3) := eX11_top_0.2.1
theorem dX11_top_4 : decode cX11_top 4 = .ok (.lreturn, 1) := eX11_top_0.2.2.1
theorem eX11_bottom_0 : decode cX11_bottom 0 = .ok (.aload_n 0, 1) ∧ decode cX11_bottom 1 = .ok (.getfield 17, 3) ∧ decode cX11_bottom 4 = .ok (.lreturn, 1) ∧ True := dkl_ok (c := cX11_bottom) [(.aload_n 0, 1), (.getfield 17, 3), (.lreturn, 1)] 0 (by decide +kernel)
theorem dX11_bottom_0 : decode cX11_bottom 0 = .ok (.aload_n 0, 1) := eX11_bottom_0.1
theorem dX11_bottom_1 : decode cX11_bottom 1 = .ok (.getfield 17, 3) := eX11_bottom_0.2.1
theorem dX11_bottom_4 : decode cX11_bottom 4 = .ok (.lreturn, 1) := eX11_bottom_0.2.2.1
theorem eX11_tray_0 : decode cX11_tray 0 = .ok (.aload_n 0, 1) ∧ decode cX11_tray 1 = .ok (.iload_n 1, 1) ∧ decode cX11_tray 2 = .ok (.invokevirtual 85, 3) ∧ decode cX11_tray 5 = .ok (.astore 4, 2) ∧ decode cX11_tray 7 = .ok (.aload 4, 2) ∧ decode cX11_tray 9 = .ok (.ifnull 12, 3) ∧ decode cX11_tray 12 = .ok (.iload_n 2, 1) ∧ decode cX11_tray 13 = .ok (.ifCond .lt 8, 3) ∧ True := dkl_ok (c := cX11_tray) [(.aload_n 0, 1), (.iload_n 1, 1), (.invokevirtual 85, 3), (.astore 4, 2), (.aload 4, 2), (.ifnull 12, 3), (.iload_n 2, 1), (.ifCond .lt 8, 3)] 0 (by decide +kernel)
theorem dX11_tray_0 : decode cX11_tray 0 = .ok (.aload_n 0, 1) := eX11_tray_0.1
theorem dX11_tray_1 : decode cX11_tray 1 = .ok (.iload_n 1, 1) := eX11_tray_0.2.1
theorem dX11_tray_2 : decode cX11_tray 2 = .ok (.invokevirtual 85, 3) := eX11_tray_0.2.2.1
theorem dX11_tray_5 : decode cX11_tray 5 = .ok (.astore 4, 2) := eX11_tray_0.2.2.2.1
theorem dX11_tray_7 : decode cX11_tray 7 = .ok (.aload 4, 2) := eX11_tray_0.2.2.2.2.1
theorem dX11_tray_9 : decode cX11_tray 9 = .ok (.ifnull 12, 3) := eX11_tray_0.2.2.2.2.2.1
theorem dX11_tray_12 : decode cX11_tray 12 = .ok (.iload_n 2, 1) := eX11_tray_0.2.2.2.2.2.2.1
theorem dX11_tray_13 : decode cX11_tray 13 = .ok (.ifCond .lt 8, 3) := eX11_tray_0.2.2.2.2.2.2.2.1
theorem eX11_tray_16 : decode cX11_tray 16 = .ok (.iload_n 2, 1) ∧ decode cX11_tray 17 = .ok (.iconst 3, 1) ∧ decode cX11_tray 18 = .ok (.if_icmp .le 9, 3) ∧ decode cX11_tray 21 = .ok (.aload_n 0, 1) ∧ decode cX11_tray 22 = .ok (.iconst 1, 1) ∧ decode cX11_tray 23 = .ok (.invokevirtual 89, 3) ∧ decode cX11_tray 26 = .ok (.ireturn, 1) ∧ decode cX11_tray 27 = .ok (.iload_n 3, 1) ∧ True := dkl_ok (c := cX11_tray) [(.iload_n 2, 1), (.iconst 3, 1), (.if_icmp .le 9, 3), (.aload_n 0, 1), (.iconst 1, 1), (.invokevirtual 89, 3), (.ireturn, 1), (.iload_n 3, 1)] 16 (by decide +kernel)
theorem dX11_tray_16 : decode cX11_tray 16 = .ok (.iload_n 2, 1) := eX11_tray_16.1
theorem dX11_tray_17 : decode cX11_tray 17 = .ok (.iconst 3, 1) := eX11_tray_16.2.1
theorem dX11_tray_18 : decode cX11_tray 18 = .ok (.if_icmp .le 9, 3) := eX11_tray_16.2.2.1
theorem dX11_tray_21 : decode cX11_tray 21 = .ok (.aload_n 0, 1) := eX11_tray_16.2.2.2.1
theorem dX11_tray_22 : decode cX11_tray 22 = .ok (.iconst 1, 1) := eX11_tray_16.2.2.2.2.1
theorem dX11_tray_23 : decode cX11_tray 23 = .ok (.invokevirtual 89, 3) := eX11_tray_16.2.2.2.2.2.1
theorem dX11_tray_26 : decode cX11_tray 26 = .ok (.ireturn, 1) := eX11_tray_16.2.2.2.2.2.2.1
theorem dX11_tray_27 : decode cX11_tray 27 = .ok (.iload_n 3, 1) := eX11_tray_16.2.2.2.2.2.2.2.1
theorem eX11_tray_28 : decode cX11_tray 28 = .ok (.bipush 60, 2) ∧ decode cX11_tray 30 = .ok (.if_icmp .le 9, 3) ∧ decode cX11_tray 33 = .ok (.aload_n 0, 1) ∧ decode cX11_tray 34 = .ok (.iconst 5, 1) ∧ decode cX11_tray 35 = .ok (.invokevirtual 89, 3) ∧ decode cX11_tray 38 = .ok (.ireturn, 1) ∧ decode cX11_tray 39 = .ok (.iload_n 3, 1) ∧ decode cX11_tray 40 = .ok (.ifCond .ge 10, 3) ∧ True := dkl_ok (c := cX11_tray) [(.bipush 60, 2), (.if_icmp .le 9, 3), (.aload_n 0, 1), (.iconst 5, 1), (.invokevirtual 89, 3), (.ireturn, 1), (.iload_n 3, 1), (.ifCond .ge 10, 3)] 28 (by decide +kernel)
theorem dX11_tray_28 : decode cX11_tray 28 = .ok (.bipush 60, 2) := eX11_tray_28.1
theorem dX11_tray_30 : decode cX11_tray 30 = .ok (.if_icmp .le 9, 3) := eX11_tray_28.2.1
theorem dX11_tray_33 : decode cX11_tray 33 = .ok (.aload_n 0, 1) := eX11_tray_28.2.2.1
theorem dX11_tray_34 : decode cX11_tray 34 = .ok (.iconst 5, 1) := eX11_tray_28.2.2.2.1
theorem dX11_tray_35 : decode cX11_tray 35 = .ok (.invokevirtual 89, 3) := eX11_tray_28.2.2.2.2.1
theorem dX11_tray_38 : decode cX11_tray 38 = .ok (.ireturn, 1) := eX11_tray_28.2.2.2.2.2.1
theorem dX11_tray_39 : decode cX11_tray 39 = .ok (.iload_n 3, 1) := eX11_tray_28.2.2.2.2.2.2.1
theorem dX11_tray_40 : decode cX11_tray 40 = .ok (.ifCond .ge 10, 3) := eX11_tray_28.2.2.2.2.2.2.2.1
theorem eX11_tray_43 : decode cX11_tray 43 = .ok (.aload_n 0, 1) ∧ decode cX11_tray 44 = .ok (.bipush 6, 2) ∧ decode cX11_tray 46 = .ok (.invokevirtual 89, 3) ∧ decode cX11_tray 49 = .ok (.ireturn, 1) ∧ decode cX11_tray 50 = .ok (.aload 4, 2) ∧ decode cX11_tray 52 = .ok (.iload_n 2, 1) ∧ decode cX11_tray 53 = .ok (.iload_n 3, 1) ∧ decode cX11_tray 54 = .ok (.invokevirtual 93, 3) ∧ True := dkl_ok (c := cX11_tray) [(.aload_n 0, 1), (.bipush 6, 2), (.invokevirtual 89, 3), (.ireturn, 1), (.aload 4, 2), (.iload_n 2, 1), (.iload_n 3, 1), (.invokevirtual 93, 3)] 43 (by decide +kernel)
theorem dX11_tray_43 : decode cX11_tray 43 = .ok (.aload_n 0, 1) := eX11_tray_43.1
theorem dX11_tray_44 : decode cX11_tray 44 = .ok (.bipush 6, 2) := eX11_tray_43.2.1
theorem dX11_tray_46 : decode cX11_tray 46 = .ok (.invokevirtual 89, 3) := eX11_tray_43.2.2.1
theorem dX11_tray_49 : decode cX11_tray 49 = .ok (.ireturn, 1) := eX11_tray_43.2.2.2.1
theorem dX11_tray_50 : decode cX11_tray 50 = .ok (.aload 4, 2) := eX11_tray_43.2.2.2.2.1
theorem dX11_tray_52 : decode cX11_tray 52 = .ok (.iload_n 2, 1) := eX11_tray_43.2.2.2.2.2.1
theorem dX11_tray_53 : decode cX11_tray 53 = .ok (.iload_n 3, 1) := eX11_tray_43.2.2.2.2.2.2.1
theorem dX11_tray_54 : decode cX11_tray 54 = .ok (.invokevirtual 93, 3) := eX11_tray_43.2.2.2.2.2.2.2.1
theorem eX11_tray_57 : decode cX11_tray 57 = .ok (.aload_n 0, 1) ∧ decode cX11_tray 58 = .ok (.invokevirtual 97, 3) ∧ decode cX11_tray 61 = .ok (.ireturn, 1) ∧ True := dkl_ok (c := cX11_tray) [(.aload_n 0, 1), (.invokevirtual 97, 3), (.ireturn, 1)] 57 (by decide +kernel)
theorem dX11_tray_57 : decode cX11_tray 57 = .ok (.aload_n 0, 1) := eX11_tray_57.1
theorem dX11_tray_58 : decode cX11_tray 58 = .ok (.invokevirtual 97, 3) := eX11_tray_57.2.1
theorem dX11_tray_61 : decode cX11_tray 61 = .ok (.ireturn, 1) := eX11_tray_57.2.2.1
theorem eX11_write_0 : decode cX11_write 0 = .ok (.aload_n 0, 1) ∧ decode cX11_write 1 = .ok (.iload_n 1, 1) ∧ decode cX11_write 2 = .ok (.invokevirtual 85, 3) ∧ decode cX11_write 5 = .ok (.astore 5, 2) ∧ decode cX11_write 7 = .ok (.aload 5, 2) ∧ decode cX11_write 9 = .ok (.iload_n 2, 1) ∧ decode cX11_write 10 = .ok (.invokestatic 101, 3) ∧ decode cX11_write 13 = .ok (.istore 6, 2) ∧ True := dkl_ok (c := cX11_write) [(.aload_n 0, 1), (.iload_n 1, 1), (.invokevirtual 85, 3), (.astore 5, 2), (.aload 5, 2), (.iload_n 2, 1), (.invokestatic 101, 3), (.istore 6, 2)] 0 (by decide +kernel)
theorem dX11_write_0 : decode cX11_write 0 = .ok (.aload_n 0, 1) := eX11_write_0.1
theorem dX11_write_1 : decode cX11_write 1 = .ok (.iload_n 1, 1) := eX11_write_0.2.1
theorem dX11_write_2 : decode cX11_write 2 = .ok (.invokevirtual 85, 3) := eX11_write_0.2.2.1
theorem dX11_write_5 : decode cX11_write 5 = .ok (.astore 5, 2) := eX11_write_0.2.2.2.1
theorem dX11_write_7 : decode cX11_write 7 = .ok (.aload 5, 2) := eX11_write_0.2.2.2.2.1
theorem dX11_write_9 : decode cX11_write 9 = .ok (.iload_n 2, 1) := eX11_write_0.2.2.2.2.2.1
theorem dX11_write_10 : decode cX11_write 10 = .ok (.invokestatic 101, 3) := eX11_write_0.2.2.2.2.2.2.1
theorem dX11_write_13 : decode cX11_write 13 = .ok (.istore 6, 2) := eX11_write_0.2.2.2.2.2.2.2.1
theorem eX11_write_15 : decode cX11_write 15 = .ok (.aload 5, 2) ∧ decode cX11_write 17 = .ok (.ifnull 8, 3) ∧ decode cX11_write 20 = .ok (.iload 6, 2) ∧ decode cX11_write 22 = .ok (.ifCond .eq 10, 3) ∧ decode cX11_write 25 = .ok (.aload_n 0, 1) ∧ decode cX11_write 26 = .ok (.iload 6, 2) ∧ decode cX11_write 28 = .ok (.invokevirtual 89, 3) ∧ decode cX11_write 31 = .ok (.ireturn, 1) ∧ True := dkl_ok (c := cX11_write) [(.aload 5, 2), (.ifnull 8, 3), (.iload 6, 2), (.ifCond .eq 10, 3), (.aload_n 0, 1), (.iload 6, 2), (.invokevirtual 89, 3), (.ireturn, 1)] 15 (by decide +kernel)
theorem dX11_write_15 : decode cX11_write 15 = .ok (.aload 5, 2) := eX11_write_15.1
theorem dX11_write_17 : decode cX11_write 17 = .ok (.ifnull 8, 3) := eX11_write_15.2.1
theorem dX11_write_20 : decode cX11_write 20 = .ok (.iload 6, 2) := eX11_write_15.2.2.1
theorem dX11_write_22 : decode cX11_write 22 = .ok (.ifCond .eq 10, 3) := eX11_write_15.2.2.2.1
theorem dX11_write_25 : decode cX11_write 25 = .ok (.aload_n 0, 1) := eX11_write_15.2.2.2.2.1
theorem dX11_write_26 : decode cX11_write 26 = .ok (.iload 6, 2) := eX11_write_15.2.2.2.2.2.1
theorem dX11_write_28 : decode cX11_write 28 = .ok (.invokevirtual 89, 3) := eX11_write_15.2.2.2.2.2.2.1
theorem dX11_write_31 : decode cX11_write 31 = .ok (.ireturn, 1) := eX11_write_15.2.2.2.2.2.2.2.1
theorem eX11_write_32 : decode cX11_write 32 = .ok (.aload 5, 2) ∧ decode cX11_write 34 = .ok (.iload_n 2, 1) ∧ decode cX11_write 35 = .ok (.lload_n 3, 1) ∧ decode cX11_write 36 = .ok (.invokevirtual 105, 3) ∧ decode cX11_write 39 = .ok (.aload_n 0, 1) ∧ decode cX11_write 40 = .ok (.invokevirtual 97, 3) ∧ decode cX11_write 43 = .ok (.ireturn, 1) ∧ True := dkl_ok (c := cX11_write) [(.aload 5, 2), (.iload_n 2, 1), (.lload_n 3, 1), (.invokevirtual 105, 3), (.aload_n 0, 1), (.invokevirtual 97, 3), (.ireturn, 1)] 32 (by decide +kernel)
theorem dX11_write_32 : decode cX11_write 32 = .ok (.aload 5, 2) := eX11_write_32.1
theorem dX11_write_34 : decode cX11_write 34 = .ok (.iload_n 2, 1) := eX11_write_32.2.1
theorem dX11_write_35 : decode cX11_write 35 = .ok (.lload_n 3, 1) := eX11_write_32.2.2.1
theorem dX11_write_36 : decode cX11_write 36 = .ok (.invokevirtual 105, 3) := eX11_write_32.2.2.2.1
theorem dX11_write_39 : decode cX11_write 39 = .ok (.aload_n 0, 1) := eX11_write_32.2.2.2.2.1
theorem dX11_write_40 : decode cX11_write 40 = .ok (.invokevirtual 97, 3) := eX11_write_32.2.2.2.2.2.1
theorem dX11_write_43 : decode cX11_write 43 = .ok (.ireturn, 1) := eX11_write_32.2.2.2.2.2.2.1
theorem eX11_read_0 : decode cX11_read 0 = .ok (.aload_n 0, 1) ∧ decode cX11_read 1 = .ok (.iload_n 1, 1) ∧ decode cX11_read 2 = .ok (.invokevirtual 85, 3) ∧ decode cX11_read 5 = .ok (.astore_n 3, 1) ∧ decode cX11_read 6 = .ok (.aload_n 3, 1) ∧ decode cX11_read 7 = .ok (.iload_n 2, 1) ∧ decode cX11_read 8 = .ok (.invokestatic 101, 3) ∧ decode cX11_read 11 = .ok (.istore 4, 2) ∧ True := dkl_ok (c := cX11_read) [(.aload_n 0, 1), (.iload_n 1, 1), (.invokevirtual 85, 3), (.astore_n 3, 1), (.aload_n 3, 1), (.iload_n 2, 1), (.invokestatic 101, 3), (.istore 4, 2)] 0 (by decide +kernel)
theorem dX11_read_0 : decode cX11_read 0 = .ok (.aload_n 0, 1) := eX11_read_0.1
theorem dX11_read_1 : decode cX11_read 1 = .ok (.iload_n 1, 1) := eX11_read_0.2.1
theorem dX11_read_2 : decode cX11_read 2 = .ok (.invokevirtual 85, 3) := eX11_read_0.2.2.1
theorem dX11_read_5 : decode cX11_read 5 = .ok (.astore_n 3, 1) := eX11_read_0.2.2.2.1
theorem dX11_read_6 : decode cX11_read 6 = .ok (.aload_n 3, 1) := eX11_read_0.2.2.2.2.1
theorem dX11_read_7 : decode cX11_read 7 = .ok (.iload_n 2, 1) := eX11_read_0.2.2.2.2.2.1
theorem dX11_read_8 : decode cX11_read 8 = .ok (.invokestatic 101, 3) := eX11_read_0.2.2.2.2.2.2.1
theorem dX11_read_11 : decode cX11_read 11 = .ok (.istore 4, 2) := eX11_read_0.2.2.2.2.2.2.2.1
theorem eX11_read_13 : decode cX11_read 13 = .ok (.aload_n 3, 1) ∧ decode cX11_read 14 = .ok (.ifnull 8, 3) ∧ decode cX11_read 17 = .ok (.iload 4, 2) ∧ decode cX11_read 19 = .ok (.ifCond .eq 11, 3) ∧ decode cX11_read 22 = .ok (.aload_n 0, 1) ∧ decode cX11_read 23 = .ok (.iload 4, 2) ∧ decode cX11_read 25 = .ok (.invokevirtual 109, 3) ∧ decode cX11_read 28 = .ok (.i2l, 1) ∧ True := dkl_ok (c := cX11_read) [(.aload_n 3, 1), (.ifnull 8, 3), (.iload 4, 2), (.ifCond .eq 11, 3), (.aload_n 0, 1), (.iload 4, 2), (.invokevirtual 109, 3), (.i2l, 1)] 13 (by decide +kernel)
theorem dX11_read_13 : decode cX11_read 13 = .ok (.aload_n 3, 1) := eX11_read_13.1
theorem dX11_read_14 : decode cX11_read 14 = .ok (.ifnull 8, 3) := eX11_read_13.2.1
theorem dX11_read_17 : decode cX11_read 17 = .ok (.iload 4, 2) := eX11_read_13.2.2.1
theorem dX11_read_19 : decode cX11_read 19 = .ok (.ifCond .eq 11, 3) := eX11_read_13.2.2.2.1
theorem dX11_read_22 : decode cX11_read 22 = .ok (.aload_n 0, 1) := eX11_read_13.2.2.2.2.1
theorem dX11_read_23 : decode cX11_read 23 = .ok (.iload 4, 2) := eX11_read_13.2.2.2.2.2.1
theorem dX11_read_25 : decode cX11_read 25 = .ok (.invokevirtual 109, 3) := eX11_read_13.2.2.2.2.2.2.1
theorem dX11_read_28 : decode cX11_read 28 = .ok (.i2l, 1) := eX11_read_13.2.2.2.2.2.2.2.1
theorem eX11_read_29 : decode cX11_read 29 = .ok (.lreturn, 1) ∧ decode cX11_read 30 = .ok (.aload_n 0, 1) ∧ decode cX11_read 31 = .ok (.iconst 0, 1) ∧ decode cX11_read 32 = .ok (.putfield 9, 3) ∧ decode cX11_read 35 = .ok (.aload_n 3, 1) ∧ decode cX11_read 36 = .ok (.iload_n 2, 1) ∧ decode cX11_read 37 = .ok (.invokevirtual 113, 3) ∧ decode cX11_read 40 = .ok (.lreturn, 1) ∧ True := dkl_ok (c := cX11_read) [(.lreturn, 1), (.aload_n 0, 1), (.iconst 0, 1), (.putfield 9, 3), (.aload_n 3, 1), (.iload_n 2, 1), (.invokevirtual 113, 3), (.lreturn, 1)] 29 (by decide +kernel)
theorem dX11_read_29 : decode cX11_read 29 = .ok (.lreturn, 1) := eX11_read_29.1
theorem dX11_read_30 : decode cX11_read 30 = .ok (.aload_n 0, 1) := eX11_read_29.2.1
theorem dX11_read_31 : decode cX11_read 31 = .ok (.iconst 0, 1) := eX11_read_29.2.2.1
theorem dX11_read_32 : decode cX11_read 32 = .ok (.putfield 9, 3) := eX11_read_29.2.2.2.1
theorem dX11_read_35 : decode cX11_read 35 = .ok (.aload_n 3, 1) := eX11_read_29.2.2.2.2.1
theorem dX11_read_36 : decode cX11_read 36 = .ok (.iload_n 2, 1) := eX11_read_29.2.2.2.2.2.1
theorem dX11_read_37 : decode cX11_read 37 = .ok (.invokevirtual 113, 3) := eX11_read_29.2.2.2.2.2.2.1
theorem dX11_read_40 : decode cX11_read 40 = .ok (.lreturn, 1) := eX11_read_29.2.2.2.2.2.2.2.1
theorem eX11_pour_0 : decode cX11_pour 0 = .ok (.aload_n 0, 1) ∧ decode cX11_pour 1 = .ok (.iload_n 1, 1) ∧ decode cX11_pour 2 = .ok (.invokevirtual 85, 3) ∧ decode cX11_pour 5 = .ok (.astore 6, 2) ∧ decode cX11_pour 7 = .ok (.aload_n 0, 1) ∧ decode cX11_pour 8 = .ok (.iload_n 3, 1) ∧ decode cX11_pour 9 = .ok (.invokevirtual 85, 3) ∧ decode cX11_pour 12 = .ok (.astore 7, 2) ∧ True := dkl_ok (c := cX11_pour) [(.aload_n 0, 1), (.iload_n 1, 1), (.invokevirtual 85, 3), (.astore 6, 2), (.aload_n 0, 1), (.iload_n 3, 1), (.invokevirtual 85, 3), (.astore 7, 2)] 0 (by decide +kernel)
theorem dX11_pour_0 : decode cX11_pour 0 = .ok (.aload_n 0, 1) := eX11_pour_0.1
theorem dX11_pour_1 : decode cX11_pour 1 = .ok (.iload_n 1, 1) := eX11_pour_0.2.1
theorem dX11_pour_2 : decode cX11_pour 2 = .ok (.invokevirtual 85, 3) := eX11_pour_0.2.2.1
theorem dX11_pour_5 : decode cX11_pour 5 = .ok (.astore 6, 2) := eX11_pour_0.2.2.2.1
theorem dX11_pour_7 : decode cX11_pour 7 = .ok (.aload_n 0, 1) := eX11_pour_0.2.2.2.2.1
theorem dX11_pour_8 : decode cX11_pour 8 = .ok (.iload_n 3, 1) := eX11_pour_0.2.2.2.2.2.1
theorem dX11_pour_9 : decode cX11_pour 9 = .ok (.invokevirtual 85, 3) := eX11_pour_0.2.2.2.2.2.2.1
theorem dX11_pour_12 : decode cX11_pour 12 = .ok (.astore 7, 2) := eX11_pour_0.2.2.2.2.2.2.2.1
theorem eX11_pour_14 : decode cX11_pour 14 = .ok (.aload 6, 2) ∧ decode cX11_pour 16 = .ok (.ifnull 8, 3) ∧ decode cX11_pour 19 = .ok (.aload 7, 2) ∧ decode cX11_pour 21 = .ok (.ifnonnull 9, 3) ∧ decode cX11_pour 24 = .ok (.aload_n 0, 1) ∧ decode cX11_pour 25 = .ok (.iconst 1, 1) ∧ decode cX11_pour 26 = .ok (.invokevirtual 89, 3) ∧ decode cX11_pour 29 = .ok (.ireturn, 1) ∧ True := dkl_ok (c := cX11_pour) [(.aload 6, 2), (.ifnull 8, 3), (.aload 7, 2), (.ifnonnull 9, 3), (.aload_n 0, 1), (.iconst 1, 1), (.invokevirtual 89, 3), (.ireturn, 1)] 14 (by decide +kernel)
theorem dX11_pour_14 : decode cX11_pour 14 = .ok (.aload 6, 2) := eX11_pour_14.1
theorem dX11_pour_16 : decode cX11_pour 16 = .ok (.ifnull 8, 3) := eX11_pour_14.2.1
theorem dX11_pour_19 : decode cX11_pour 19 = .ok (.aload 7, 2) := eX11_pour_14.2.2.1
theorem dX11_pour_21 : decode cX11_pour 21 = .ok (.ifnonnull 9, 3) := eX11_pour_14.2.2.2.1
theorem dX11_pour_24 : decode cX11_pour 24 = .ok (.aload_n 0, 1) := eX11_pour_14.2.2.2.2.1
theorem dX11_pour_25 : decode cX11_pour 25 = .ok (.iconst 1, 1) := eX11_pour_14.2.2.2.2.2.1
theorem dX11_pour_26 : decode cX11_pour 26 = .ok (.invokevirtual 89, 3) := eX11_pour_14.2.2.2.2.2.2.1
theorem dX11_pour_29 : decode cX11_pour 29 = .ok (.ireturn, 1) := eX11_pour_14.2.2.2.2.2.2.2.1
theorem eX11_pour_30 : decode cX11_pour 30 = .ok (.aload 6, 2) ∧ decode cX11_pour 32 = .ok (.invokevirtual 117, 3) ∧ decode cX11_pour 35 = .ok (.ifCond .ne 11, 3) ∧ decode cX11_pour 38 = .ok (.aload 7, 2) ∧ decode cX11_pour 40 = .ok (.invokevirtual 117, 3) ∧ decode cX11_pour 43 = .ok (.ifCond .eq 9, 3) ∧ decode cX11_pour 46 = .ok (.aload_n 0, 1) ∧ decode cX11_pour 47 = .ok (.iconst 3, 1) ∧ True := dkl_ok (c := cX11_pour) [(.aload 6, 2), (.invokevirtual 117, 3), (.ifCond .ne 11, 3), (.aload 7, 2), (.invokevirtual 117, 3), (.ifCond .eq 9, 3), (.aload_n 0, 1), (.iconst 3, 1)] 30 (by decide +kernel)
theorem dX11_pour_30 : decode cX11_pour 30 = .ok (.aload 6, 2) := eX11_pour_30.1
theorem dX11_pour_32 : decode cX11_pour 32 = .ok (.invokevirtual 117, 3) := eX11_pour_30.2.1
theorem dX11_pour_35 : decode cX11_pour 35 = .ok (.ifCond .ne 11, 3) := eX11_pour_30.2.2.1
theorem dX11_pour_38 : decode cX11_pour 38 = .ok (.aload 7, 2) := eX11_pour_30.2.2.2.1
theorem dX11_pour_40 : decode cX11_pour 40 = .ok (.invokevirtual 117, 3) := eX11_pour_30.2.2.2.2.1
theorem dX11_pour_43 : decode cX11_pour 43 = .ok (.ifCond .eq 9, 3) := eX11_pour_30.2.2.2.2.2.1
theorem dX11_pour_46 : decode cX11_pour 46 = .ok (.aload_n 0, 1) := eX11_pour_30.2.2.2.2.2.2.1
theorem dX11_pour_47 : decode cX11_pour 47 = .ok (.iconst 3, 1) := eX11_pour_30.2.2.2.2.2.2.2.1
theorem eX11_pour_48 : decode cX11_pour 48 = .ok (.invokevirtual 89, 3) ∧ decode cX11_pour 51 = .ok (.ireturn, 1) ∧ decode cX11_pour 52 = .ok (.aload 6, 2) ∧ decode cX11_pour 54 = .ok (.getfield 120, 3) ∧ decode cX11_pour 57 = .ok (.aload 7, 2) ∧ decode cX11_pour 59 = .ok (.getfield 120, 3) ∧ decode cX11_pour 62 = .ok (.if_icmp .eq 10, 3) ∧ decode cX11_pour 65 = .ok (.aload_n 0, 1) ∧ True := dkl_ok (c := cX11_pour) [(.invokevirtual 89, 3), (.ireturn, 1), (.aload 6, 2), (.getfield 120, 3), (.aload 7, 2), (.getfield 120, 3), (.if_icmp .eq 10, 3), (.aload_n 0, 1)] 48 (by decide +kernel)
theorem dX11_pour_48 : decode cX11_pour 48 = .ok (.invokevirtual 89, 3) := eX11_pour_48.1
theorem dX11_pour_51 : decode cX11_pour 51 = .ok (.ireturn, 1) := eX11_pour_48.2.1
theorem dX11_pour_52 : decode cX11_pour 52 = .ok (.aload 6, 2) := eX11_pour_48.2.2.1
theorem dX11_pour_54 : decode cX11_pour 54 = .ok (.getfield 120, 3) := eX11_pour_48.2.2.2.1
theorem dX11_pour_57 : decode cX11_pour 57 = .ok (.aload 7, 2) := eX11_pour_48.2.2.2.2.1
theorem dX11_pour_59 : decode cX11_pour 59 = .ok (.getfield 120, 3) := eX11_pour_48.2.2.2.2.2.1
theorem dX11_pour_62 : decode cX11_pour 62 = .ok (.if_icmp .eq 10, 3) := eX11_pour_48.2.2.2.2.2.2.1
theorem dX11_pour_65 : decode cX11_pour 65 = .ok (.aload_n 0, 1) := eX11_pour_48.2.2.2.2.2.2.2.1
theorem eX11_pour_66 : decode cX11_pour 66 = .ok (.bipush 11, 2) ∧ decode cX11_pour 68 = .ok (.invokevirtual 89, 3) ∧ decode cX11_pour 71 = .ok (.ireturn, 1) ∧ decode cX11_pour 72 = .ok (.iload 5, 2) ∧ decode cX11_pour 74 = .ok (.ifCond .ge 10, 3) ∧ decode cX11_pour 77 = .ok (.aload_n 0, 1) ∧ decode cX11_pour 78 = .ok (.bipush 6, 2) ∧ decode cX11_pour 80 = .ok (.invokevirtual 89, 3) ∧ True := dkl_ok (c := cX11_pour) [(.bipush 11, 2), (.invokevirtual 89, 3), (.ireturn, 1), (.iload 5, 2), (.ifCond .ge 10, 3), (.aload_n 0, 1), (.bipush 6, 2), (.invokevirtual 89, 3)] 66 (by decide +kernel)
theorem dX11_pour_66 : decode cX11_pour 66 = .ok (.bipush 11, 2) := eX11_pour_66.1
theorem dX11_pour_68 : decode cX11_pour 68 = .ok (.invokevirtual 89, 3) := eX11_pour_66.2.1
theorem dX11_pour_71 : decode cX11_pour 71 = .ok (.ireturn, 1) := eX11_pour_66.2.2.1
theorem dX11_pour_72 : decode cX11_pour 72 = .ok (.iload 5, 2) := eX11_pour_66.2.2.2.1
theorem dX11_pour_74 : decode cX11_pour 74 = .ok (.ifCond .ge 10, 3) := eX11_pour_66.2.2.2.2.1
theorem dX11_pour_77 : decode cX11_pour 77 = .ok (.aload_n 0, 1) := eX11_pour_66.2.2.2.2.2.1
theorem dX11_pour_78 : decode cX11_pour 78 = .ok (.bipush 6, 2) := eX11_pour_66.2.2.2.2.2.2.1
theorem dX11_pour_80 : decode cX11_pour 80 = .ok (.invokevirtual 89, 3) := eX11_pour_66.2.2.2.2.2.2.2.1
theorem eX11_pour_83 : decode cX11_pour 83 = .ok (.ireturn, 1) ∧ decode cX11_pour 84 = .ok (.aload 6, 2) ∧ decode cX11_pour 86 = .ok (.iload_n 2, 1) ∧ decode cX11_pour 87 = .ok (.iload 5, 2) ∧ decode cX11_pour 89 = .ok (.invokevirtual 123, 3) ∧ decode cX11_pour 92 = .ok (.ifCond .eq 15, 3) ∧ decode cX11_pour 95 = .ok (.aload 7, 2) ∧ decode cX11_pour 97 = .ok (.iload 4, 2) ∧ True := dkl_ok (c := cX11_pour) [(.ireturn, 1), (.aload 6, 2), (.iload_n 2, 1), (.iload 5, 2), (.invokevirtual 123, 3), (.ifCond .eq 15, 3), (.aload 7, 2), (.iload 4, 2)] 83 (by decide +kernel)
theorem dX11_pour_83 : decode cX11_pour 83 = .ok (.ireturn, 1) := eX11_pour_83.1
theorem dX11_pour_84 : decode cX11_pour 84 = .ok (.aload 6, 2) := eX11_pour_83.2.1
theorem dX11_pour_86 : decode cX11_pour 86 = .ok (.iload_n 2, 1) := eX11_pour_83.2.2.1
theorem dX11_pour_87 : decode cX11_pour 87 = .ok (.iload 5, 2) := eX11_pour_83.2.2.2.1
theorem dX11_pour_89 : decode cX11_pour 89 = .ok (.invokevirtual 123, 3) := eX11_pour_83.2.2.2.2.1
theorem dX11_pour_92 : decode cX11_pour 92 = .ok (.ifCond .eq 15, 3) := eX11_pour_83.2.2.2.2.2.1
theorem dX11_pour_95 : decode cX11_pour 95 = .ok (.aload 7, 2) := eX11_pour_83.2.2.2.2.2.2.1
theorem dX11_pour_97 : decode cX11_pour 97 = .ok (.iload 4, 2) := eX11_pour_83.2.2.2.2.2.2.2.1
theorem eX11_pour_99 : decode cX11_pour 99 = .ok (.iload 5, 2) ∧ decode cX11_pour 101 = .ok (.invokevirtual 123, 3) ∧ decode cX11_pour 104 = .ok (.ifCond .ne 9, 3) ∧ decode cX11_pour 107 = .ok (.aload_n 0, 1) ∧ decode cX11_pour 108 = .ok (.iconst 4, 1) ∧ decode cX11_pour 109 = .ok (.invokevirtual 89, 3) ∧ decode cX11_pour 112 = .ok (.ireturn, 1) ∧ decode cX11_pour 113 = .ok (.aload 7, 2) ∧ True := dkl_ok (c := cX11_pour) [(.iload 5, 2), (.invokevirtual 123, 3), (.ifCond .ne 9, 3), (.aload_n 0, 1), (.iconst 4, 1), (.invokevirtual 89, 3), (.ireturn, 1), (.aload 7, 2)] 99 (by decide +kernel)
theorem dX11_pour_99 : decode cX11_pour 99 = .ok (.iload 5, 2) := eX11_pour_99.1
theorem dX11_pour_101 : decode cX11_pour 101 = .ok (.invokevirtual 123, 3) := eX11_pour_99.2.1
theorem dX11_pour_104 : decode cX11_pour 104 = .ok (.ifCond .ne 9, 3) := eX11_pour_99.2.2.1
theorem dX11_pour_107 : decode cX11_pour 107 = .ok (.aload_n 0, 1) := eX11_pour_99.2.2.2.1
theorem dX11_pour_108 : decode cX11_pour 108 = .ok (.iconst 4, 1) := eX11_pour_99.2.2.2.2.1
theorem dX11_pour_109 : decode cX11_pour 109 = .ok (.invokevirtual 89, 3) := eX11_pour_99.2.2.2.2.2.1
theorem dX11_pour_112 : decode cX11_pour 112 = .ok (.ireturn, 1) := eX11_pour_99.2.2.2.2.2.2.1
theorem dX11_pour_113 : decode cX11_pour 113 = .ok (.aload 7, 2) := eX11_pour_99.2.2.2.2.2.2.2.1
theorem eX11_pour_115 : decode cX11_pour 115 = .ok (.aload 6, 2) ∧ decode cX11_pour 117 = .ok (.iload_n 2, 1) ∧ decode cX11_pour 118 = .ok (.iload 4, 2) ∧ decode cX11_pour 120 = .ok (.iload 5, 2) ∧ decode cX11_pour 122 = .ok (.invokevirtual 127, 3) ∧ decode cX11_pour 125 = .ok (.aload_n 0, 1) ∧ decode cX11_pour 126 = .ok (.invokevirtual 97, 3) ∧ decode cX11_pour 129 = .ok (.ireturn, 1) ∧ True := dkl_ok (c := cX11_pour) [(.aload 6, 2), (.iload_n 2, 1), (.iload 4, 2), (.iload 5, 2), (.invokevirtual 127, 3), (.aload_n 0, 1), (.invokevirtual 97, 3), (.ireturn, 1)] 115 (by decide +kernel)
theorem dX11_pour_115 : decode cX11_pour 115 = .ok (.aload 6, 2) := eX11_pour_115.1
theorem dX11_pour_117 : decode cX11_pour 117 = .ok (.iload_n 2, 1) := eX11_pour_115.2.1
theorem dX11_pour_118 : decode cX11_pour 118 = .ok (.iload 4, 2) := eX11_pour_115.2.2.1
theorem dX11_pour_120 : decode cX11_pour 120 = .ok (.iload 5, 2) := eX11_pour_115.2.2.2.1
theorem dX11_pour_122 : decode cX11_pour 122 = .ok (.invokevirtual 127, 3) := eX11_pour_115.2.2.2.2.1
theorem dX11_pour_125 : decode cX11_pour 125 = .ok (.aload_n 0, 1) := eX11_pour_115.2.2.2.2.2.1
theorem dX11_pour_126 : decode cX11_pour 126 = .ok (.invokevirtual 97, 3) := eX11_pour_115.2.2.2.2.2.2.1
theorem dX11_pour_129 : decode cX11_pour 129 = .ok (.ireturn, 1) := eX11_pour_115.2.2.2.2.2.2.2.1
theorem eX11_trayAt_0 : decode cX11_trayAt 0 = .ok (.iload_n 1, 1) ∧ decode cX11_trayAt 1 = .ok (.ifCond .lt 17, 3) ∧ decode cX11_trayAt 4 = .ok (.iload_n 1, 1) ∧ decode cX11_trayAt 5 = .ok (.iconst 4, 1) ∧ decode cX11_trayAt 6 = .ok (.if_icmp .ge 12, 3) ∧ decode cX11_trayAt 9 = .ok (.aload_n 0, 1) ∧ decode cX11_trayAt 10 = .ok (.getfield 22, 3) ∧ decode cX11_trayAt 13 = .ok (.iload_n 1, 1) ∧ True := dkl_ok (c := cX11_trayAt) [(.iload_n 1, 1), (.ifCond .lt 17, 3), (.iload_n 1, 1), (.iconst 4, 1), (.if_icmp .ge 12, 3), (.aload_n 0, 1), (.getfield 22, 3), (.iload_n 1, 1)] 0 (by decide +kernel)
theorem dX11_trayAt_0 : decode cX11_trayAt 0 = .ok (.iload_n 1, 1) := eX11_trayAt_0.1
theorem dX11_trayAt_1 : decode cX11_trayAt 1 = .ok (.ifCond .lt 17, 3) := eX11_trayAt_0.2.1
theorem dX11_trayAt_4 : decode cX11_trayAt 4 = .ok (.iload_n 1, 1) := eX11_trayAt_0.2.2.1
theorem dX11_trayAt_5 : decode cX11_trayAt 5 = .ok (.iconst 4, 1) := eX11_trayAt_0.2.2.2.1
theorem dX11_trayAt_6 : decode cX11_trayAt 6 = .ok (.if_icmp .ge 12, 3) := eX11_trayAt_0.2.2.2.2.1
theorem dX11_trayAt_9 : decode cX11_trayAt 9 = .ok (.aload_n 0, 1) := eX11_trayAt_0.2.2.2.2.2.1
theorem dX11_trayAt_10 : decode cX11_trayAt 10 = .ok (.getfield 22, 3) := eX11_trayAt_0.2.2.2.2.2.2.1
theorem dX11_trayAt_13 : decode cX11_trayAt 13 = .ok (.iload_n 1, 1) := eX11_trayAt_0.2.2.2.2.2.2.2.1
theorem eX11_trayAt_14 : decode cX11_trayAt 14 = .ok (.aaload, 1) ∧ decode cX11_trayAt 15 = .ok (.goto 4, 3) ∧ decode cX11_trayAt 18 = .ok (.aconst_null, 1) ∧ decode cX11_trayAt 19 = .ok (.areturn, 1) ∧ True := dkl_ok (c := cX11_trayAt) [(.aaload, 1), (.goto 4, 3), (.aconst_null, 1), (.areturn, 1)] 14 (by decide +kernel)
theorem dX11_trayAt_14 : decode cX11_trayAt 14 = .ok (.aaload, 1) := eX11_trayAt_14.1
theorem dX11_trayAt_15 : decode cX11_trayAt 15 = .ok (.goto 4, 3) := eX11_trayAt_14.2.1
theorem dX11_trayAt_18 : decode cX11_trayAt 18 = .ok (.aconst_null, 1) := eX11_trayAt_14.2.2.1
theorem dX11_trayAt_19 : decode cX11_trayAt 19 = .ok (.areturn, 1) := eX11_trayAt_14.2.2.2.1
theorem eX11_placeStatus_0 : decode cX11_placeStatus 0 = .ok (.aload_n 0, 1) ∧ decode cX11_placeStatus 1 = .ok (.ifnonnull 5, 3) ∧ decode cX11_placeStatus 4 = .ok (.iconst 1, 1) ∧ decode cX11_placeStatus 5 = .ok (.ireturn, 1) ∧ decode cX11_placeStatus 6 = .ok (.aload_n 0, 1) ∧ decode cX11_placeStatus 7 = .ok (.invokevirtual 117, 3) ∧ decode cX11_placeStatus 10 = .ok (.ifCond .eq 5, 3) ∧ decode cX11_placeStatus 13 = .ok (.iconst 3, 1) ∧ True := dkl_ok (c := cX11_placeStatus) [(.aload_n 0, 1), (.ifnonnull 5, 3), (.iconst 1, 1), (.ireturn, 1), (.aload_n 0, 1), (.invokevirtual 117, 3), (.ifCond .eq 5, 3), (.iconst 3, 1)] 0 (by decide +kernel)
theorem dX11_placeStatus_0 : decode cX11_placeStatus 0 = .ok (.aload_n 0, 1) := eX11_placeStatus_0.1
theorem dX11_placeStatus_1 : decode cX11_placeStatus 1 = .ok (.ifnonnull 5, 3) := eX11_placeStatus_0.2.1
theorem dX11_placeStatus_4 : decode cX11_placeStatus 4 = .ok (.iconst 1, 1) := eX11_placeStatus_0.2.2.1
theorem dX11_placeStatus_5 : decode cX11_placeStatus 5 = .ok (.ireturn, 1) := eX11_placeStatus_0.2.2.2.1
theorem dX11_placeStatus_6 : decode cX11_placeStatus 6 = .ok (.aload_n 0, 1) := eX11_placeStatus_0.2.2.2.2.1
theorem dX11_placeStatus_7 : decode cX11_placeStatus 7 = .ok (.invokevirtual 117, 3) := eX11_placeStatus_0.2.2.2.2.2.1
theorem dX11_placeStatus_10 : decode cX11_placeStatus 10 = .ok (.ifCond .eq 5, 3) := eX11_placeStatus_0.2.2.2.2.2.2.1
theorem dX11_placeStatus_13 : decode cX11_placeStatus 13 = .ok (.iconst 3, 1) := eX11_placeStatus_0.2.2.2.2.2.2.2.1
theorem eX11_placeStatus_14 : decode cX11_placeStatus 14 = .ok (.ireturn, 1) ∧ decode cX11_placeStatus 15 = .ok (.aload_n 0, 1) ∧ decode cX11_placeStatus 16 = .ok (.iload_n 1, 1) ∧ decode cX11_placeStatus 17 = .ok (.iconst 1, 1) ∧ decode cX11_placeStatus 18 = .ok (.invokevirtual 123, 3) ∧ decode cX11_placeStatus 21 = .ok (.ifCond .eq 7, 3) ∧ decode cX11_placeStatus 24 = .ok (.iconst 0, 1) ∧ decode cX11_placeStatus 25 = .ok (.goto 4, 3) ∧ True := dkl_ok (c := cX11_placeStatus) [(.ireturn, 1), (.aload_n 0, 1), (.iload_n 1, 1), (.iconst 1, 1), (.invokevirtual 123, 3), (.ifCond .eq 7, 3), (.iconst 0, 1), (.goto 4, 3)] 14 (by decide +kernel)
theorem dX11_placeStatus_14 : decode cX11_placeStatus 14 = .ok (.ireturn, 1) := eX11_placeStatus_14.1
theorem dX11_placeStatus_15 : decode cX11_placeStatus 15 = .ok (.aload_n 0, 1) := eX11_placeStatus_14.2.1
theorem dX11_placeStatus_16 : decode cX11_placeStatus 16 = .ok (.iload_n 1, 1) := eX11_placeStatus_14.2.2.1
theorem dX11_placeStatus_17 : decode cX11_placeStatus 17 = .ok (.iconst 1, 1) := eX11_placeStatus_14.2.2.2.1
theorem dX11_placeStatus_18 : decode cX11_placeStatus 18 = .ok (.invokevirtual 123, 3) := eX11_placeStatus_14.2.2.2.2.1
theorem dX11_placeStatus_21 : decode cX11_placeStatus 21 = .ok (.ifCond .eq 7, 3) := eX11_placeStatus_14.2.2.2.2.2.1
theorem dX11_placeStatus_24 : decode cX11_placeStatus 24 = .ok (.iconst 0, 1) := eX11_placeStatus_14.2.2.2.2.2.2.1
theorem dX11_placeStatus_25 : decode cX11_placeStatus 25 = .ok (.goto 4, 3) := eX11_placeStatus_14.2.2.2.2.2.2.2.1
theorem eX11_placeStatus_28 : decode cX11_placeStatus 28 = .ok (.iconst 4, 1) ∧ decode cX11_placeStatus 29 = .ok (.ireturn, 1) ∧ True := dkl_ok (c := cX11_placeStatus) [(.iconst 4, 1), (.ireturn, 1)] 28 (by decide +kernel)
theorem dX11_placeStatus_28 : decode cX11_placeStatus 28 = .ok (.iconst 4, 1) := eX11_placeStatus_28.1
theorem dX11_placeStatus_29 : decode cX11_placeStatus 29 = .ok (.ireturn, 1) := eX11_placeStatus_28.2.1
theorem eX11_feed_0 : decode cX11_feed 0 = .ok (.aload_n 0, 1) ∧ decode cX11_feed 1 = .ok (.getfield 30, 3) ∧ decode cX11_feed 4 = .ok (.bipush 20, 2) ∧ decode cX11_feed 6 = .ok (.iadd, 1) ∧ decode cX11_feed 7 = .ok (.sipush 900, 3) ∧ decode cX11_feed 10 = .ok (.if_icmp .le 5, 3) ∧ decode cX11_feed 13 = .ok (.iconst (-1), 1) ∧ decode cX11_feed 14 = .ok (.ireturn, 1) ∧ True := dkl_ok (c := cX11_feed) [(.aload_n 0, 1), (.getfield 30, 3), (.bipush 20, 2), (.iadd, 1), (.sipush 900, 3), (.if_icmp .le 5, 3), (.iconst (-1), 1), (.ireturn, 1)] 0 (by decide +kernel)
theorem dX11_feed_0 : decode cX11_feed 0 = .ok (.aload_n 0, 1) := eX11_feed_0.1
theorem dX11_feed_1 : decode cX11_feed 1 = .ok (.getfield 30, 3) := eX11_feed_0.2.1
theorem dX11_feed_4 : decode cX11_feed 4 = .ok (.bipush 20, 2) := eX11_feed_0.2.2.1
theorem dX11_feed_6 : decode cX11_feed 6 = .ok (.iadd, 1) := eX11_feed_0.2.2.2.1
theorem dX11_feed_7 : decode cX11_feed 7 = .ok (.sipush 900, 3) := eX11_feed_0.2.2.2.2.1
theorem dX11_feed_10 : decode cX11_feed 10 = .ok (.if_icmp .le 5, 3) := eX11_feed_0.2.2.2.2.2.1
theorem dX11_feed_13 : decode cX11_feed 13 = .ok (.iconst (-1), 1) := eX11_feed_0.2.2.2.2.2.2.1
theorem dX11_feed_14 : decode cX11_feed 14 = .ok (.ireturn, 1) := eX11_feed_0.2.2.2.2.2.2.2.1
theorem eX11_feed_15 : decode cX11_feed 15 = .ok (.aload_n 0, 1) ∧ decode cX11_feed 16 = .ok (.iload_n 1, 1) ∧ decode cX11_feed 17 = .ok (.invokevirtual 131, 3) ∧ decode cX11_feed 20 = .ok (.aload_n 0, 1) ∧ decode cX11_feed 21 = .ok (.iload_n 2, 1) ∧ decode cX11_feed 22 = .ok (.invokevirtual 131, 3) ∧ decode cX11_feed 25 = .ok (.aload_n 0, 1) ∧ decode cX11_feed 26 = .ok (.iload_n 3, 1) ∧ True := dkl_ok (c := cX11_feed) [(.aload_n 0, 1), (.iload_n 1, 1), (.invokevirtual 131, 3), (.aload_n 0, 1), (.iload_n 2, 1), (.invokevirtual 131, 3), (.aload_n 0, 1), (.iload_n 3, 1)] 15 (by decide +kernel)
theorem dX11_feed_15 : decode cX11_feed 15 = .ok (.aload_n 0, 1) := eX11_feed_15.1
theorem dX11_feed_16 : decode cX11_feed 16 = .ok (.iload_n 1, 1) := eX11_feed_15.2.1
theorem dX11_feed_17 : decode cX11_feed 17 = .ok (.invokevirtual 131, 3) := eX11_feed_15.2.2.1
theorem dX11_feed_20 : decode cX11_feed 20 = .ok (.aload_n 0, 1) := eX11_feed_15.2.2.2.1
theorem dX11_feed_21 : decode cX11_feed 21 = .ok (.iload_n 2, 1) := eX11_feed_15.2.2.2.2.1
theorem dX11_feed_22 : decode cX11_feed 22 = .ok (.invokevirtual 131, 3) := eX11_feed_15.2.2.2.2.2.1
theorem dX11_feed_25 : decode cX11_feed 25 = .ok (.aload_n 0, 1) := eX11_feed_15.2.2.2.2.2.2.1
theorem dX11_feed_26 : decode cX11_feed 26 = .ok (.iload_n 3, 1) := eX11_feed_15.2.2.2.2.2.2.2.1
theorem eX11_feed_27 : decode cX11_feed 27 = .ok (.invokevirtual 131, 3) ∧ decode cX11_feed 30 = .ok (.aload_n 0, 1) ∧ decode cX11_feed 31 = .ok (.iload 4, 2) ∧ decode cX11_feed 33 = .ok (.invokevirtual 131, 3) ∧ decode cX11_feed 36 = .ok (.aload_n 0, 1) ∧ decode cX11_feed 37 = .ok (.iload 5, 2) ∧ decode cX11_feed 39 = .ok (.invokevirtual 131, 3) ∧ decode cX11_feed 42 = .ok (.aload_n 0, 1) ∧ True := dkl_ok (c := cX11_feed) [(.invokevirtual 131, 3), (.aload_n 0, 1), (.iload 4, 2), (.invokevirtual 131, 3), (.aload_n 0, 1), (.iload 5, 2), (.invokevirtual 131, 3), (.aload_n 0, 1)] 27 (by decide +kernel)
theorem dX11_feed_27 : decode cX11_feed 27 = .ok (.invokevirtual 131, 3) := eX11_feed_27.1
theorem dX11_feed_30 : decode cX11_feed 30 = .ok (.aload_n 0, 1) := eX11_feed_27.2.1
theorem dX11_feed_31 : decode cX11_feed 31 = .ok (.iload 4, 2) := eX11_feed_27.2.2.1
theorem dX11_feed_33 : decode cX11_feed 33 = .ok (.invokevirtual 131, 3) := eX11_feed_27.2.2.2.1
theorem dX11_feed_36 : decode cX11_feed 36 = .ok (.aload_n 0, 1) := eX11_feed_27.2.2.2.2.1
theorem dX11_feed_37 : decode cX11_feed 37 = .ok (.iload 5, 2) := eX11_feed_27.2.2.2.2.2.1
theorem dX11_feed_39 : decode cX11_feed 39 = .ok (.invokevirtual 131, 3) := eX11_feed_27.2.2.2.2.2.2.1
theorem dX11_feed_42 : decode cX11_feed 42 = .ok (.aload_n 0, 1) := eX11_feed_27.2.2.2.2.2.2.2.1
theorem eX11_feed_43 : decode cX11_feed 43 = .ok (.getfield 30, 3) ∧ decode cX11_feed 46 = .ok (.ireturn, 1) ∧ True := dkl_ok (c := cX11_feed) [(.getfield 30, 3), (.ireturn, 1)] 43 (by decide +kernel)
theorem dX11_feed_43 : decode cX11_feed 43 = .ok (.getfield 30, 3) := eX11_feed_43.1
theorem dX11_feed_46 : decode cX11_feed 46 = .ok (.ireturn, 1) := eX11_feed_43.2.1
theorem eX11_tapeInt_0 : decode cX11_tapeInt 0 = .ok (.bipush 24, 2) ∧ decode cX11_tapeInt 2 = .ok (.istore_n 2, 1) ∧ decode cX11_tapeInt 3 = .ok (.iload_n 2, 1) ∧ decode cX11_tapeInt 4 = .ok (.ifCond .lt 49, 3) ∧ decode cX11_tapeInt 7 = .ok (.aload_n 0, 1) ∧ decode cX11_tapeInt 8 = .ok (.getfield 30, 3) ∧ decode cX11_tapeInt 11 = .ok (.ifCond .lt 42, 3) ∧ decode cX11_tapeInt 14 = .ok (.aload_n 0, 1) ∧ True := dkl_ok (c := cX11_tapeInt) [(.bipush 24, 2), (.istore_n 2, 1), (.iload_n 2, 1), (.ifCond .lt 49, 3), (.aload_n 0, 1), (.getfield 30, 3), (.ifCond .lt 42, 3), (.aload_n 0, 1)] 0 (by decide +kernel)
theorem dX11_tapeInt_0 : decode cX11_tapeInt 0 = .ok (.bipush 24, 2) := eX11_tapeInt_0.1
theorem dX11_tapeInt_2 : decode cX11_tapeInt 2 = .ok (.istore_n 2, 1) := eX11_tapeInt_0.2.1
theorem dX11_tapeInt_3 : decode cX11_tapeInt 3 = .ok (.iload_n 2, 1) := eX11_tapeInt_0.2.2.1
theorem dX11_tapeInt_4 : decode cX11_tapeInt 4 = .ok (.ifCond .lt 49, 3) := eX11_tapeInt_0.2.2.2.1
theorem dX11_tapeInt_7 : decode cX11_tapeInt 7 = .ok (.aload_n 0, 1) := eX11_tapeInt_0.2.2.2.2.1
theorem dX11_tapeInt_8 : decode cX11_tapeInt 8 = .ok (.getfield 30, 3) := eX11_tapeInt_0.2.2.2.2.2.1
theorem dX11_tapeInt_11 : decode cX11_tapeInt 11 = .ok (.ifCond .lt 42, 3) := eX11_tapeInt_0.2.2.2.2.2.2.1
theorem dX11_tapeInt_14 : decode cX11_tapeInt 14 = .ok (.aload_n 0, 1) := eX11_tapeInt_0.2.2.2.2.2.2.2.1
theorem eX11_tapeInt_15 : decode cX11_tapeInt 15 = .ok (.getfield 30, 3) ∧ decode cX11_tapeInt 18 = .ok (.sipush 900, 3) ∧ decode cX11_tapeInt 21 = .ok (.if_icmp .ge 32, 3) ∧ decode cX11_tapeInt 24 = .ok (.aload_n 0, 1) ∧ decode cX11_tapeInt 25 = .ok (.getfield 26, 3) ∧ decode cX11_tapeInt 28 = .ok (.aload_n 0, 1) ∧ decode cX11_tapeInt 29 = .ok (.getfield 30, 3) ∧ decode cX11_tapeInt 32 = .ok (.iload_n 1, 1) ∧ True := dkl_ok (c := cX11_tapeInt) [(.getfield 30, 3), (.sipush 900, 3), (.if_icmp .ge 32, 3), (.aload_n 0, 1), (.getfield 26, 3), (.aload_n 0, 1), (.getfield 30, 3), (.iload_n 1, 1)] 15 (by decide +kernel)
theorem dX11_tapeInt_15 : decode cX11_tapeInt 15 = .ok (.getfield 30, 3) := eX11_tapeInt_15.1
theorem dX11_tapeInt_18 : decode cX11_tapeInt 18 = .ok (.sipush 900, 3) := eX11_tapeInt_15.2.1
theorem dX11_tapeInt_21 : decode cX11_tapeInt 21 = .ok (.if_icmp .ge 32, 3) := eX11_tapeInt_15.2.2.1
theorem dX11_tapeInt_24 : decode cX11_tapeInt 24 = .ok (.aload_n 0, 1) := eX11_tapeInt_15.2.2.2.1
theorem dX11_tapeInt_25 : decode cX11_tapeInt 25 = .ok (.getfield 26, 3) := eX11_tapeInt_15.2.2.2.2.1
theorem dX11_tapeInt_28 : decode cX11_tapeInt 28 = .ok (.aload_n 0, 1) := eX11_tapeInt_15.2.2.2.2.2.1
theorem dX11_tapeInt_29 : decode cX11_tapeInt 29 = .ok (.getfield 30, 3) := eX11_tapeInt_15.2.2.2.2.2.2.1
theorem dX11_tapeInt_32 : decode cX11_tapeInt 32 = .ok (.iload_n 1, 1) := eX11_tapeInt_15.2.2.2.2.2.2.2.1
theorem eX11_tapeInt_33 : decode cX11_tapeInt 33 = .ok (.iload_n 2, 1) ∧ decode cX11_tapeInt 34 = .ok (.ishr, 1) ∧ decode cX11_tapeInt 35 = .ok (.i2b, 1) ∧ decode cX11_tapeInt 36 = .ok (.bastore, 1) ∧ decode cX11_tapeInt 37 = .ok (.aload_n 0, 1) ∧ decode cX11_tapeInt 38 = .ok (.dup, 1) ∧ decode cX11_tapeInt 39 = .ok (.getfield 30, 3) ∧ decode cX11_tapeInt 42 = .ok (.iconst 1, 1) ∧ True := dkl_ok (c := cX11_tapeInt) [(.iload_n 2, 1), (.ishr, 1), (.i2b, 1), (.bastore, 1), (.aload_n 0, 1), (.dup, 1), (.getfield 30, 3), (.iconst 1, 1)] 33 (by decide +kernel)
theorem dX11_tapeInt_33 : decode cX11_tapeInt 33 = .ok (.iload_n 2, 1) := eX11_tapeInt_33.1
theorem dX11_tapeInt_34 : decode cX11_tapeInt 34 = .ok (.ishr, 1) := eX11_tapeInt_33.2.1
theorem dX11_tapeInt_35 : decode cX11_tapeInt 35 = .ok (.i2b, 1) := eX11_tapeInt_33.2.2.1
theorem dX11_tapeInt_36 : decode cX11_tapeInt 36 = .ok (.bastore, 1) := eX11_tapeInt_33.2.2.2.1
theorem dX11_tapeInt_37 : decode cX11_tapeInt 37 = .ok (.aload_n 0, 1) := eX11_tapeInt_33.2.2.2.2.1
theorem dX11_tapeInt_38 : decode cX11_tapeInt 38 = .ok (.dup, 1) := eX11_tapeInt_33.2.2.2.2.2.1
theorem dX11_tapeInt_39 : decode cX11_tapeInt 39 = .ok (.getfield 30, 3) := eX11_tapeInt_33.2.2.2.2.2.2.1
theorem dX11_tapeInt_42 : decode cX11_tapeInt 42 = .ok (.iconst 1, 1) := eX11_tapeInt_33.2.2.2.2.2.2.2.1
theorem eX11_tapeInt_43 : decode cX11_tapeInt 43 = .ok (.iadd, 1) ∧ decode cX11_tapeInt 44 = .ok (.putfield 30, 3) ∧ decode cX11_tapeInt 47 = .ok (.iinc 2 (-8), 3) ∧ decode cX11_tapeInt 50 = .ok (.goto (-47), 3) ∧ decode cX11_tapeInt 53 = .ok (.return_, 1) ∧ True := dkl_ok (c := cX11_tapeInt) [(.iadd, 1), (.putfield 30, 3), (.iinc 2 (-8), 3), (.goto (-47), 3), (.return_, 1)] 43 (by decide +kernel)
theorem dX11_tapeInt_43 : decode cX11_tapeInt 43 = .ok (.iadd, 1) := eX11_tapeInt_43.1
theorem dX11_tapeInt_44 : decode cX11_tapeInt 44 = .ok (.putfield 30, 3) := eX11_tapeInt_43.2.1
theorem dX11_tapeInt_47 : decode cX11_tapeInt 47 = .ok (.iinc 2 (-8), 3) := eX11_tapeInt_43.2.2.1
theorem dX11_tapeInt_50 : decode cX11_tapeInt 50 = .ok (.goto (-47), 3) := eX11_tapeInt_43.2.2.2.1
theorem dX11_tapeInt_53 : decode cX11_tapeInt 53 = .ok (.return_, 1) := eX11_tapeInt_43.2.2.2.2.1
theorem eX11_table_0 : decode cX11_table 0 = .ok (.iload_n 1, 1) ∧ decode cX11_table 1 = .ok (.ifCond .lt 11, 3) ∧ decode cX11_table 4 = .ok (.iload_n 1, 1) ∧ decode cX11_table 5 = .ok (.aload_n 0, 1) ∧ decode cX11_table 6 = .ok (.getfield 30, 3) ∧ decode cX11_table 9 = .ok (.if_icmp .le 9, 3) ∧ decode cX11_table 12 = .ok (.aload_n 0, 1) ∧ decode cX11_table 13 = .ok (.iconst 5, 1) ∧ True := dkl_ok (c := cX11_table) [(.iload_n 1, 1), (.ifCond .lt 11, 3), (.iload_n 1, 1), (.aload_n 0, 1), (.getfield 30, 3), (.if_icmp .le 9, 3), (.aload_n 0, 1), (.iconst 5, 1)] 0 (by decide +kernel)
theorem dX11_table_0 : decode cX11_table 0 = .ok (.iload_n 1, 1) := eX11_table_0.1
theorem dX11_table_1 : decode cX11_table 1 = .ok (.ifCond .lt 11, 3) := eX11_table_0.2.1
theorem dX11_table_4 : decode cX11_table 4 = .ok (.iload_n 1, 1) := eX11_table_0.2.2.1
theorem dX11_table_5 : decode cX11_table 5 = .ok (.aload_n 0, 1) := eX11_table_0.2.2.2.1
theorem dX11_table_6 : decode cX11_table 6 = .ok (.getfield 30, 3) := eX11_table_0.2.2.2.2.1
theorem dX11_table_9 : decode cX11_table 9 = .ok (.if_icmp .le 9, 3) := eX11_table_0.2.2.2.2.2.1
theorem dX11_table_12 : decode cX11_table 12 = .ok (.aload_n 0, 1) := eX11_table_0.2.2.2.2.2.2.1
theorem dX11_table_13 : decode cX11_table 13 = .ok (.iconst 5, 1) := eX11_table_0.2.2.2.2.2.2.2.1
theorem eX11_table_14 : decode cX11_table 14 = .ok (.invokevirtual 109, 3) ∧ decode cX11_table 17 = .ok (.ireturn, 1) ∧ decode cX11_table 18 = .ok (.aload_n 0, 1) ∧ decode cX11_table 19 = .ok (.getfield 59, 3) ∧ decode cX11_table 22 = .ok (.aload_n 0, 1) ∧ decode cX11_table 23 = .ok (.getfield 26, 3) ∧ decode cX11_table 26 = .ok (.iload_n 1, 1) ∧ decode cX11_table 27 = .ok (.invokevirtual 135, 3) ∧ True := dkl_ok (c := cX11_table) [(.invokevirtual 109, 3), (.ireturn, 1), (.aload_n 0, 1), (.getfield 59, 3), (.aload_n 0, 1), (.getfield 26, 3), (.iload_n 1, 1), (.invokevirtual 135, 3)] 14 (by decide +kernel)
theorem dX11_table_14 : decode cX11_table 14 = .ok (.invokevirtual 109, 3) := eX11_table_14.1
theorem dX11_table_17 : decode cX11_table 17 = .ok (.ireturn, 1) := eX11_table_14.2.1
theorem dX11_table_18 : decode cX11_table 18 = .ok (.aload_n 0, 1) := eX11_table_14.2.2.1
theorem dX11_table_19 : decode cX11_table 19 = .ok (.getfield 59, 3) := eX11_table_14.2.2.2.1
theorem dX11_table_22 : decode cX11_table 22 = .ok (.aload_n 0, 1) := eX11_table_14.2.2.2.2.1
theorem dX11_table_23 : decode cX11_table 23 = .ok (.getfield 26, 3) := eX11_table_14.2.2.2.2.2.1
theorem dX11_table_26 : decode cX11_table 26 = .ok (.iload_n 1, 1) := eX11_table_14.2.2.2.2.2.2.1
theorem dX11_table_27 : decode cX11_table 27 = .ok (.invokevirtual 135, 3) := eX11_table_14.2.2.2.2.2.2.2.1
theorem eX11_table_30 : decode cX11_table 30 = .ok (.istore_n 2, 1) ∧ decode cX11_table 31 = .ok (.aload_n 0, 1) ∧ decode cX11_table 32 = .ok (.aload_n 0, 1) ∧ decode cX11_table 33 = .ok (.getfield 59, 3) ∧ decode cX11_table 36 = .ok (.invokevirtual 139, 3) ∧ decode cX11_table 39 = .ok (.iload_n 2, 1) ∧ decode cX11_table 40 = .ok (.ifCond .ne 10, 3) ∧ decode cX11_table 43 = .ok (.aload_n 0, 1) ∧ True := dkl_ok (c := cX11_table) [(.istore_n 2, 1), (.aload_n 0, 1), (.aload_n 0, 1), (.getfield 59, 3), (.invokevirtual 139, 3), (.iload_n 2, 1), (.ifCond .ne 10, 3), (.aload_n 0, 1)] 30 (by decide +kernel)
theorem dX11_table_30 : decode cX11_table 30 = .ok (.istore_n 2, 1) := eX11_table_30.1
theorem dX11_table_31 : decode cX11_table 31 = .ok (.aload_n 0, 1) := eX11_table_30.2.1
theorem dX11_table_32 : decode cX11_table 32 = .ok (.aload_n 0, 1) := eX11_table_30.2.2.1
theorem dX11_table_33 : decode cX11_table 33 = .ok (.getfield 59, 3) := eX11_table_30.2.2.2.1
theorem dX11_table_36 : decode cX11_table 36 = .ok (.invokevirtual 139, 3) := eX11_table_30.2.2.2.2.1
theorem dX11_table_39 : decode cX11_table 39 = .ok (.iload_n 2, 1) := eX11_table_30.2.2.2.2.2.1
theorem dX11_table_40 : decode cX11_table 40 = .ok (.ifCond .ne 10, 3) := eX11_table_30.2.2.2.2.2.2.1
theorem dX11_table_43 : decode cX11_table 43 = .ok (.aload_n 0, 1) := eX11_table_30.2.2.2.2.2.2.2.1
theorem eX11_table_44 : decode cX11_table 44 = .ok (.bipush 10, 2) ∧ decode cX11_table 46 = .ok (.invokevirtual 109, 3) ∧ decode cX11_table 49 = .ok (.ireturn, 1) ∧ decode cX11_table 50 = .ok (.aload_n 0, 1) ∧ decode cX11_table 51 = .ok (.getfield 42, 3) ∧ decode cX11_table 54 = .ok (.aload_n 0, 1) ∧ decode cX11_table 55 = .ok (.getfield 59, 3) ∧ decode cX11_table 58 = .ok (.getfield 143, 3) ∧ True := dkl_ok (c := cX11_table) [(.bipush 10, 2), (.invokevirtual 109, 3), (.ireturn, 1), (.aload_n 0, 1), (.getfield 42, 3), (.aload_n 0, 1), (.getfield 59, 3), (.getfield 143, 3)] 44 (by decide +kernel)
theorem dX11_table_44 : decode cX11_table 44 = .ok (.bipush 10, 2) := eX11_table_44.1
theorem dX11_table_46 : decode cX11_table 46 = .ok (.invokevirtual 109, 3) := eX11_table_44.2.1
theorem dX11_table_49 : decode cX11_table 49 = .ok (.ireturn, 1) := eX11_table_44.2.2.1
theorem dX11_table_50 : decode cX11_table 50 = .ok (.aload_n 0, 1) := eX11_table_44.2.2.2.1
theorem dX11_table_51 : decode cX11_table 51 = .ok (.getfield 42, 3) := eX11_table_44.2.2.2.2.1
theorem dX11_table_54 : decode cX11_table 54 = .ok (.aload_n 0, 1) := eX11_table_44.2.2.2.2.2.1
theorem dX11_table_55 : decode cX11_table 55 = .ok (.getfield 59, 3) := eX11_table_44.2.2.2.2.2.2.1
theorem dX11_table_58 : decode cX11_table 58 = .ok (.getfield 143, 3) := eX11_table_44.2.2.2.2.2.2.2.1
theorem eX11_table_61 : decode cX11_table 61 = .ok (.invokevirtual 144, 3) ∧ decode cX11_table 64 = .ok (.aload_n 0, 1) ∧ decode cX11_table 65 = .ok (.aload_n 0, 1) ∧ decode cX11_table 66 = .ok (.getfield 42, 3) ∧ decode cX11_table 69 = .ok (.getfield 147, 3) ∧ decode cX11_table 72 = .ok (.getfield 151, 3) ∧ decode cX11_table 75 = .ok (.invokevirtual 156, 3) ∧ decode cX11_table 78 = .ok (.ireturn, 1) ∧ True := dkl_ok (c := cX11_table) [(.invokevirtual 144, 3), (.aload_n 0, 1), (.aload_n 0, 1), (.getfield 42, 3), (.getfield 147, 3), (.getfield 151, 3), (.invokevirtual 156, 3), (.ireturn, 1)] 61 (by decide +kernel)
theorem dX11_table_61 : decode cX11_table 61 = .ok (.invokevirtual 144, 3) := eX11_table_61.1
theorem dX11_table_64 : decode cX11_table 64 = .ok (.aload_n 0, 1) := eX11_table_61.2.1
theorem dX11_table_65 : decode cX11_table 65 = .ok (.aload_n 0, 1) := eX11_table_61.2.2.1
theorem dX11_table_66 : decode cX11_table 66 = .ok (.getfield 42, 3) := eX11_table_61.2.2.2.1
theorem dX11_table_69 : decode cX11_table 69 = .ok (.getfield 147, 3) := eX11_table_61.2.2.2.2.1
theorem dX11_table_72 : decode cX11_table 72 = .ok (.getfield 151, 3) := eX11_table_61.2.2.2.2.2.1
theorem dX11_table_75 : decode cX11_table 75 = .ok (.invokevirtual 156, 3) := eX11_table_61.2.2.2.2.2.2.1
theorem dX11_table_78 : decode cX11_table 78 = .ok (.ireturn, 1) := eX11_table_61.2.2.2.2.2.2.2.1
theorem eX11_round_0 : decode cX11_round 0 = .ok (.iload_n 1, 1) ∧ decode cX11_round 1 = .ok (.ifCond .lt 18, 3) ∧ decode cX11_round 4 = .ok (.iload_n 1, 1) ∧ decode cX11_round 5 = .ok (.aload_n 0, 1) ∧ decode cX11_round 6 = .ok (.getfield 30, 3) ∧ decode cX11_round 9 = .ok (.if_icmp .gt 10, 3) ∧ decode cX11_round 12 = .ok (.iload_n 1, 1) ∧ decode cX11_round 13 = .ok (.sipush 300, 3) ∧ True := dkl_ok (c := cX11_round) [(.iload_n 1, 1), (.ifCond .lt 18, 3), (.iload_n 1, 1), (.aload_n 0, 1), (.getfield 30, 3), (.if_icmp .gt 10, 3), (.iload_n 1, 1), (.sipush 300, 3)] 0 (by decide +kernel)
theorem dX11_round_0 : decode cX11_round 0 = .ok (.iload_n 1, 1) := eX11_round_0.1
theorem dX11_round_1 : decode cX11_round 1 = .ok (.ifCond .lt 18, 3) := eX11_round_0.2.1
theorem dX11_round_4 : decode cX11_round 4 = .ok (.iload_n 1, 1) := eX11_round_0.2.2.1
theorem dX11_round_5 : decode cX11_round 5 = .ok (.aload_n 0, 1) := eX11_round_0.2.2.2.1
theorem dX11_round_6 : decode cX11_round 6 = .ok (.getfield 30, 3) := eX11_round_0.2.2.2.2.1
theorem dX11_round_9 : decode cX11_round 9 = .ok (.if_icmp .gt 10, 3) := eX11_round_0.2.2.2.2.2.1
theorem dX11_round_12 : decode cX11_round 12 = .ok (.iload_n 1, 1) := eX11_round_0.2.2.2.2.2.2.1
theorem dX11_round_13 : decode cX11_round 13 = .ok (.sipush 300, 3) := eX11_round_0.2.2.2.2.2.2.2.1
theorem eX11_round_16 : decode cX11_round 16 = .ok (.if_icmp .le 9, 3) ∧ decode cX11_round 19 = .ok (.aload_n 0, 1) ∧ decode cX11_round 20 = .ok (.iconst 5, 1) ∧ decode cX11_round 21 = .ok (.invokevirtual 109, 3) ∧ decode cX11_round 24 = .ok (.ireturn, 1) ∧ decode cX11_round 25 = .ok (.aload_n 0, 1) ∧ decode cX11_round 26 = .ok (.getfield 66, 3) ∧ decode cX11_round 29 = .ok (.aload_n 0, 1) ∧ True := dkl_ok (c := cX11_round) [(.if_icmp .le 9, 3), (.aload_n 0, 1), (.iconst 5, 1), (.invokevirtual 109, 3), (.ireturn, 1), (.aload_n 0, 1), (.getfield 66, 3), (.aload_n 0, 1)] 16 (by decide +kernel)
theorem dX11_round_16 : decode cX11_round 16 = .ok (.if_icmp .le 9, 3) := eX11_round_16.1
theorem dX11_round_19 : decode cX11_round 19 = .ok (.aload_n 0, 1) := eX11_round_16.2.1
theorem dX11_round_20 : decode cX11_round 20 = .ok (.iconst 5, 1) := eX11_round_16.2.2.1
theorem dX11_round_21 : decode cX11_round 21 = .ok (.invokevirtual 109, 3) := eX11_round_16.2.2.2.1
theorem dX11_round_24 : decode cX11_round 24 = .ok (.ireturn, 1) := eX11_round_16.2.2.2.2.1
theorem dX11_round_25 : decode cX11_round 25 = .ok (.aload_n 0, 1) := eX11_round_16.2.2.2.2.2.1
theorem dX11_round_26 : decode cX11_round 26 = .ok (.getfield 66, 3) := eX11_round_16.2.2.2.2.2.2.1
theorem dX11_round_29 : decode cX11_round 29 = .ok (.aload_n 0, 1) := eX11_round_16.2.2.2.2.2.2.2.1
theorem eX11_round_30 : decode cX11_round 30 = .ok (.getfield 26, 3) ∧ decode cX11_round 33 = .ok (.iload_n 1, 1) ∧ decode cX11_round 34 = .ok (.aload_n 0, 1) ∧ decode cX11_round 35 = .ok (.getfield 42, 3) ∧ decode cX11_round 38 = .ok (.getfield 147, 3) ∧ decode cX11_round 41 = .ok (.invokevirtual 159, 3) ∧ decode cX11_round 44 = .ok (.istore_n 2, 1) ∧ decode cX11_round 45 = .ok (.aload_n 0, 1) ∧ True := dkl_ok (c := cX11_round) [(.getfield 26, 3), (.iload_n 1, 1), (.aload_n 0, 1), (.getfield 42, 3), (.getfield 147, 3), (.invokevirtual 159, 3), (.istore_n 2, 1), (.aload_n 0, 1)] 30 (by decide +kernel)
theorem dX11_round_30 : decode cX11_round 30 = .ok (.getfield 26, 3) := eX11_round_30.1
theorem dX11_round_33 : decode cX11_round 33 = .ok (.iload_n 1, 1) := eX11_round_30.2.1
theorem dX11_round_34 : decode cX11_round 34 = .ok (.aload_n 0, 1) := eX11_round_30.2.2.1
theorem dX11_round_35 : decode cX11_round 35 = .ok (.getfield 42, 3) := eX11_round_30.2.2.2.1
theorem dX11_round_38 : decode cX11_round 38 = .ok (.getfield 147, 3) := eX11_round_30.2.2.2.2.1
theorem dX11_round_41 : decode cX11_round 41 = .ok (.invokevirtual 159, 3) := eX11_round_30.2.2.2.2.2.1
theorem dX11_round_44 : decode cX11_round 44 = .ok (.istore_n 2, 1) := eX11_round_30.2.2.2.2.2.2.1
theorem dX11_round_45 : decode cX11_round 45 = .ok (.aload_n 0, 1) := eX11_round_30.2.2.2.2.2.2.2.1
theorem eX11_round_46 : decode cX11_round 46 = .ok (.aload_n 0, 1) ∧ decode cX11_round 47 = .ok (.getfield 66, 3) ∧ decode cX11_round 50 = .ok (.invokevirtual 139, 3) ∧ decode cX11_round 53 = .ok (.iload_n 2, 1) ∧ decode cX11_round 54 = .ok (.ifCond .ne 10, 3) ∧ decode cX11_round 57 = .ok (.aload_n 0, 1) ∧ decode cX11_round 58 = .ok (.bipush 10, 2) ∧ decode cX11_round 60 = .ok (.invokevirtual 109, 3) ∧ True := dkl_ok (c := cX11_round) [(.aload_n 0, 1), (.getfield 66, 3), (.invokevirtual 139, 3), (.iload_n 2, 1), (.ifCond .ne 10, 3), (.aload_n 0, 1), (.bipush 10, 2), (.invokevirtual 109, 3)] 46 (by decide +kernel)
theorem dX11_round_46 : decode cX11_round 46 = .ok (.aload_n 0, 1) := eX11_round_46.1
theorem dX11_round_47 : decode cX11_round 47 = .ok (.getfield 66, 3) := eX11_round_46.2.1
theorem dX11_round_50 : decode cX11_round 50 = .ok (.invokevirtual 139, 3) := eX11_round_46.2.2.1
theorem dX11_round_53 : decode cX11_round 53 = .ok (.iload_n 2, 1) := eX11_round_46.2.2.2.1
theorem dX11_round_54 : decode cX11_round 54 = .ok (.ifCond .ne 10, 3) := eX11_round_46.2.2.2.2.1
theorem dX11_round_57 : decode cX11_round 57 = .ok (.aload_n 0, 1) := eX11_round_46.2.2.2.2.2.1
theorem dX11_round_58 : decode cX11_round 58 = .ok (.bipush 10, 2) := eX11_round_46.2.2.2.2.2.2.1
theorem dX11_round_60 : decode cX11_round 60 = .ok (.invokevirtual 109, 3) := eX11_round_46.2.2.2.2.2.2.2.1
theorem eX11_round_63 : decode cX11_round 63 = .ok (.ireturn, 1) ∧ decode cX11_round 64 = .ok (.aload_n 0, 1) ∧ decode cX11_round 65 = .ok (.getfield 42, 3) ∧ decode cX11_round 68 = .ok (.getfield 162, 3) ∧ decode cX11_round 71 = .ok (.aload_n 0, 1) ∧ decode cX11_round 72 = .ok (.getfield 66, 3) ∧ decode cX11_round 75 = .ok (.getfield 166, 3) ∧ decode cX11_round 78 = .ok (.invokevirtual 167, 3) ∧ True := dkl_ok (c := cX11_round) [(.ireturn, 1), (.aload_n 0, 1), (.getfield 42, 3), (.getfield 162, 3), (.aload_n 0, 1), (.getfield 66, 3), (.getfield 166, 3), (.invokevirtual 167, 3)] 63 (by decide +kernel)
theorem dX11_round_63 : decode cX11_round 63 = .ok (.ireturn, 1) := eX11_round_63.1
theorem dX11_round_64 : decode cX11_round 64 = .ok (.aload_n 0, 1) := eX11_round_63.2.1
theorem dX11_round_65 : decode cX11_round 65 = .ok (.getfield 42, 3) := eX11_round_63.2.2.1
theorem dX11_round_68 : decode cX11_round 68 = .ok (.getfield 162, 3) := eX11_round_63.2.2.2.1
theorem dX11_round_71 : decode cX11_round 71 = .ok (.aload_n 0, 1) := eX11_round_63.2.2.2.2.1
theorem dX11_round_72 : decode cX11_round 72 = .ok (.getfield 66, 3) := eX11_round_63.2.2.2.2.2.1
theorem dX11_round_75 : decode cX11_round 75 = .ok (.getfield 166, 3) := eX11_round_63.2.2.2.2.2.2.1
theorem dX11_round_78 : decode cX11_round 78 = .ok (.invokevirtual 167, 3) := eX11_round_63.2.2.2.2.2.2.2.1
theorem eX11_round_81 : decode cX11_round 81 = .ok (.aload_n 0, 1) ∧ decode cX11_round 82 = .ok (.aload_n 0, 1) ∧ decode cX11_round 83 = .ok (.getfield 42, 3) ∧ decode cX11_round 86 = .ok (.getfield 162, 3) ∧ decode cX11_round 89 = .ok (.getfield 172, 3) ∧ decode cX11_round 92 = .ok (.invokevirtual 156, 3) ∧ decode cX11_round 95 = .ok (.ireturn, 1) ∧ True := dkl_ok (c := cX11_round) [(.aload_n 0, 1), (.aload_n 0, 1), (.getfield 42, 3), (.getfield 162, 3), (.getfield 172, 3), (.invokevirtual 156, 3), (.ireturn, 1)] 81 (by decide +kernel)
theorem dX11_round_81 : decode cX11_round 81 = .ok (.aload_n 0, 1) := eX11_round_81.1
theorem dX11_round_82 : decode cX11_round 82 = .ok (.aload_n 0, 1) := eX11_round_81.2.1
theorem dX11_round_83 : decode cX11_round 83 = .ok (.getfield 42, 3) := eX11_round_81.2.2.1
theorem dX11_round_86 : decode cX11_round 86 = .ok (.getfield 162, 3) := eX11_round_81.2.2.2.1
theorem dX11_round_89 : decode cX11_round 89 = .ok (.getfield 172, 3) := eX11_round_81.2.2.2.2.1
theorem dX11_round_92 : decode cX11_round 92 = .ok (.invokevirtual 156, 3) := eX11_round_81.2.2.2.2.2.1
theorem dX11_round_95 : decode cX11_round 95 = .ok (.ireturn, 1) := eX11_round_81.2.2.2.2.2.2.1
theorem eX11_endReading_0 : decode cX11_endReading 0 = .ok (.aload_n 0, 1) ∧ decode cX11_endReading 1 = .ok (.iconst 0, 1) ∧ decode cX11_endReading 2 = .ok (.putfield 30, 3) ∧ decode cX11_endReading 5 = .ok (.aload_n 0, 1) ∧ decode cX11_endReading 6 = .ok (.aload_n 1, 1) ∧ decode cX11_endReading 7 = .ok (.getfield 175, 3) ∧ decode cX11_endReading 10 = .ok (.putfield 33, 3) ∧ decode cX11_endReading 13 = .ok (.aload_n 0, 1) ∧ True := dkl_ok (c := cX11_endReading) [(.aload_n 0, 1), (.iconst 0, 1), (.putfield 30, 3), (.aload_n 0, 1), (.aload_n 1, 1), (.getfield 175, 3), (.putfield 33, 3), (.aload_n 0, 1)] 0 (by decide +kernel)
theorem dX11_endReading_0 : decode cX11_endReading 0 = .ok (.aload_n 0, 1) := eX11_endReading_0.1
theorem dX11_endReading_1 : decode cX11_endReading 1 = .ok (.iconst 0, 1) := eX11_endReading_0.2.1
theorem dX11_endReading_2 : decode cX11_endReading 2 = .ok (.putfield 30, 3) := eX11_endReading_0.2.2.1
theorem dX11_endReading_5 : decode cX11_endReading 5 = .ok (.aload_n 0, 1) := eX11_endReading_0.2.2.2.1
theorem dX11_endReading_6 : decode cX11_endReading 6 = .ok (.aload_n 1, 1) := eX11_endReading_0.2.2.2.2.1
theorem dX11_endReading_7 : decode cX11_endReading 7 = .ok (.getfield 175, 3) := eX11_endReading_0.2.2.2.2.2.1
theorem dX11_endReading_10 : decode cX11_endReading 10 = .ok (.putfield 33, 3) := eX11_endReading_0.2.2.2.2.2.2.1
theorem dX11_endReading_13 : decode cX11_endReading 13 = .ok (.aload_n 0, 1) := eX11_endReading_0.2.2.2.2.2.2.2.1
theorem eX11_endReading_14 : decode cX11_endReading 14 = .ok (.aload_n 1, 1) ∧ decode cX11_endReading 15 = .ok (.getfield 180, 3) ∧ decode cX11_endReading 18 = .ok (.putfield 36, 3) ∧ decode cX11_endReading 21 = .ok (.return_, 1) ∧ True := dkl_ok (c := cX11_endReading) [(.aload_n 1, 1), (.getfield 180, 3), (.putfield 36, 3), (.return_, 1)] 14 (by decide +kernel)
theorem dX11_endReading_14 : decode cX11_endReading 14 = .ok (.aload_n 1, 1) := eX11_endReading_14.1
theorem dX11_endReading_15 : decode cX11_endReading 15 = .ok (.getfield 180, 3) := eX11_endReading_14.2.1
theorem dX11_endReading_18 : decode cX11_endReading 18 = .ok (.putfield 36, 3) := eX11_endReading_14.2.2.1
theorem dX11_endReading_21 : decode cX11_endReading 21 = .ok (.return_, 1) := eX11_endReading_14.2.2.2.1
theorem eX11_fault_0 : decode cX11_fault 0 = .ok (.iload_n 1, 1) ∧ decode cX11_fault 1 = .ok (.ifCond .ne 8, 3) ∧ decode cX11_fault 4 = .ok (.aload_n 0, 1) ∧ decode cX11_fault 5 = .ok (.getfield 33, 3) ∧ decode cX11_fault 8 = .ok (.ireturn, 1) ∧ decode cX11_fault 9 = .ok (.iload_n 1, 1) ∧ decode cX11_fault 10 = .ok (.iconst 1, 1) ∧ decode cX11_fault 11 = .ok (.if_icmp .ne 10, 3) ∧ True := dkl_ok (c := cX11_fault) [(.iload_n 1, 1), (.ifCond .ne 8, 3), (.aload_n 0, 1), (.getfield 33, 3), (.ireturn, 1), (.iload_n 1, 1), (.iconst 1, 1), (.if_icmp .ne 10, 3)] 0 (by decide +kernel)
theorem dX11_fault_0 : decode cX11_fault 0 = .ok (.iload_n 1, 1) := eX11_fault_0.1
theorem dX11_fault_1 : decode cX11_fault 1 = .ok (.ifCond .ne 8, 3) := eX11_fault_0.2.1
theorem dX11_fault_4 : decode cX11_fault 4 = .ok (.aload_n 0, 1) := eX11_fault_0.2.2.1
theorem dX11_fault_5 : decode cX11_fault 5 = .ok (.getfield 33, 3) := eX11_fault_0.2.2.2.1
theorem dX11_fault_8 : decode cX11_fault 8 = .ok (.ireturn, 1) := eX11_fault_0.2.2.2.2.1
theorem dX11_fault_9 : decode cX11_fault 9 = .ok (.iload_n 1, 1) := eX11_fault_0.2.2.2.2.2.1
theorem dX11_fault_10 : decode cX11_fault 10 = .ok (.iconst 1, 1) := eX11_fault_0.2.2.2.2.2.2.1
theorem dX11_fault_11 : decode cX11_fault 11 = .ok (.if_icmp .ne 10, 3) := eX11_fault_0.2.2.2.2.2.2.2.1
theorem eX11_fault_14 : decode cX11_fault 14 = .ok (.aload_n 0, 1) ∧ decode cX11_fault 15 = .ok (.getfield 36, 3) ∧ decode cX11_fault 18 = .ok (.goto 4, 3) ∧ decode cX11_fault 21 = .ok (.iconst (-1), 1) ∧ decode cX11_fault 22 = .ok (.ireturn, 1) ∧ True := dkl_ok (c := cX11_fault) [(.aload_n 0, 1), (.getfield 36, 3), (.goto 4, 3), (.iconst (-1), 1), (.ireturn, 1)] 14 (by decide +kernel)
theorem dX11_fault_14 : decode cX11_fault 14 = .ok (.aload_n 0, 1) := eX11_fault_14.1
theorem dX11_fault_15 : decode cX11_fault 15 = .ok (.getfield 36, 3) := eX11_fault_14.2.1
theorem dX11_fault_18 : decode cX11_fault 18 = .ok (.goto 4, 3) := eX11_fault_14.2.2.1
theorem dX11_fault_21 : decode cX11_fault 21 = .ok (.iconst (-1), 1) := eX11_fault_14.2.2.2.1
theorem dX11_fault_22 : decode cX11_fault 22 = .ok (.ireturn, 1) := eX11_fault_14.2.2.2.2.1
theorem eX11_many_0 : decode cX11_many 0 = .ok (.aload_n 0, 1) ∧ decode cX11_many 1 = .ok (.getfield 42, 3) ∧ decode cX11_many 4 = .ok (.getfield 147, 3) ∧ decode cX11_many 7 = .ok (.astore_n 2, 1) ∧ decode cX11_many 8 = .ok (.iload_n 1, 1) ∧ True := dkl_ok (c := cX11_many) [(.aload_n 0, 1), (.getfield 42, 3), (.getfield 147, 3), (.astore_n 2, 1), (.iload_n 1, 1)] 0 (by decide +kernel)
theorem dX11_many_0 : decode cX11_many 0 = .ok (.aload_n 0, 1) := eX11_many_0.1
theorem dX11_many_1 : decode cX11_many 1 = .ok (.getfield 42, 3) := eX11_many_0.2.1
theorem dX11_many_4 : decode cX11_many 4 = .ok (.getfield 147, 3) := eX11_many_0.2.2.1
theorem dX11_many_7 : decode cX11_many 7 = .ok (.astore_n 2, 1) := eX11_many_0.2.2.2.1
theorem dX11_many_8 : decode cX11_many 8 = .ok (.iload_n 1, 1) := eX11_many_0.2.2.2.2.1
theorem dX11_many_9 : decode cX11_many 9 = .ok (.tableswitch 226 0 10 #[59, 68, 77, 86, 95, 104, 116, 144, 159, 179, 211], 59) := d_of (by decide +kernel)
theorem eX11_many_68 : decode cX11_many 68 = .ok (.aload_n 0, 1) ∧ decode cX11_many 69 = .ok (.aload_n 2, 1) ∧ decode cX11_many 70 = .ok (.getfield 183, 3) ∧ decode cX11_many 73 = .ok (.invokevirtual 156, 3) ∧ decode cX11_many 76 = .ok (.ireturn, 1) ∧ decode cX11_many 77 = .ok (.aload_n 0, 1) ∧ decode cX11_many 78 = .ok (.aload_n 2, 1) ∧ decode cX11_many 79 = .ok (.getfield 186, 3) ∧ True := dkl_ok (c := cX11_many) [(.aload_n 0, 1), (.aload_n 2, 1), (.getfield 183, 3), (.invokevirtual 156, 3), (.ireturn, 1), (.aload_n 0, 1), (.aload_n 2, 1), (.getfield 186, 3)] 68 (by decide +kernel)
theorem dX11_many_68 : decode cX11_many 68 = .ok (.aload_n 0, 1) := eX11_many_68.1
theorem dX11_many_69 : decode cX11_many 69 = .ok (.aload_n 2, 1) := eX11_many_68.2.1
theorem dX11_many_70 : decode cX11_many 70 = .ok (.getfield 183, 3) := eX11_many_68.2.2.1
theorem dX11_many_73 : decode cX11_many 73 = .ok (.invokevirtual 156, 3) := eX11_many_68.2.2.2.1
theorem dX11_many_76 : decode cX11_many 76 = .ok (.ireturn, 1) := eX11_many_68.2.2.2.2.1
theorem dX11_many_77 : decode cX11_many 77 = .ok (.aload_n 0, 1) := eX11_many_68.2.2.2.2.2.1
theorem dX11_many_78 : decode cX11_many 78 = .ok (.aload_n 2, 1) := eX11_many_68.2.2.2.2.2.2.1
theorem dX11_many_79 : decode cX11_many 79 = .ok (.getfield 186, 3) := eX11_many_68.2.2.2.2.2.2.2.1
theorem eX11_many_82 : decode cX11_many 82 = .ok (.invokevirtual 156, 3) ∧ decode cX11_many 85 = .ok (.ireturn, 1) ∧ decode cX11_many 86 = .ok (.aload_n 0, 1) ∧ decode cX11_many 87 = .ok (.aload_n 2, 1) ∧ decode cX11_many 88 = .ok (.getfield 151, 3) ∧ decode cX11_many 91 = .ok (.invokevirtual 156, 3) ∧ decode cX11_many 94 = .ok (.ireturn, 1) ∧ decode cX11_many 95 = .ok (.aload_n 0, 1) ∧ True := dkl_ok (c := cX11_many) [(.invokevirtual 156, 3), (.ireturn, 1), (.aload_n 0, 1), (.aload_n 2, 1), (.getfield 151, 3), (.invokevirtual 156, 3), (.ireturn, 1), (.aload_n 0, 1)] 82 (by decide +kernel)
theorem dX11_many_82 : decode cX11_many 82 = .ok (.invokevirtual 156, 3) := eX11_many_82.1
theorem dX11_many_85 : decode cX11_many 85 = .ok (.ireturn, 1) := eX11_many_82.2.1
theorem dX11_many_86 : decode cX11_many 86 = .ok (.aload_n 0, 1) := eX11_many_82.2.2.1
theorem dX11_many_87 : decode cX11_many 87 = .ok (.aload_n 2, 1) := eX11_many_82.2.2.2.1
theorem dX11_many_88 : decode cX11_many 88 = .ok (.getfield 151, 3) := eX11_many_82.2.2.2.2.1
theorem dX11_many_91 : decode cX11_many 91 = .ok (.invokevirtual 156, 3) := eX11_many_82.2.2.2.2.2.1
theorem dX11_many_94 : decode cX11_many 94 = .ok (.ireturn, 1) := eX11_many_82.2.2.2.2.2.2.1
theorem dX11_many_95 : decode cX11_many 95 = .ok (.aload_n 0, 1) := eX11_many_82.2.2.2.2.2.2.2.1
theorem eX11_many_96 : decode cX11_many 96 = .ok (.aload_n 2, 1) ∧ decode cX11_many 97 = .ok (.getfield 189, 3) ∧ decode cX11_many 100 = .ok (.invokevirtual 156, 3) ∧ decode cX11_many 103 = .ok (.ireturn, 1) ∧ decode cX11_many 104 = .ok (.aload_n 0, 1) ∧ decode cX11_many 105 = .ok (.aload_n 2, 1) ∧ decode cX11_many 106 = .ok (.getfield 192, 3) ∧ decode cX11_many 109 = .ok (.invokevirtual 156, 3) ∧ True := dkl_ok (c := cX11_many) [(.aload_n 2, 1), (.getfield 189, 3), (.invokevirtual 156, 3), (.ireturn, 1), (.aload_n 0, 1), (.aload_n 2, 1), (.getfield 192, 3), (.invokevirtual 156, 3)] 96 (by decide +kernel)
theorem dX11_many_96 : decode cX11_many 96 = .ok (.aload_n 2, 1) := eX11_many_96.1
theorem dX11_many_97 : decode cX11_many 97 = .ok (.getfield 189, 3) := eX11_many_96.2.1
theorem dX11_many_100 : decode cX11_many 100 = .ok (.invokevirtual 156, 3) := eX11_many_96.2.2.1
theorem dX11_many_103 : decode cX11_many 103 = .ok (.ireturn, 1) := eX11_many_96.2.2.2.1
theorem dX11_many_104 : decode cX11_many 104 = .ok (.aload_n 0, 1) := eX11_many_96.2.2.2.2.1
theorem dX11_many_105 : decode cX11_many 105 = .ok (.aload_n 2, 1) := eX11_many_96.2.2.2.2.2.1
theorem dX11_many_106 : decode cX11_many 106 = .ok (.getfield 192, 3) := eX11_many_96.2.2.2.2.2.2.1
theorem dX11_many_109 : decode cX11_many 109 = .ok (.invokevirtual 156, 3) := eX11_many_96.2.2.2.2.2.2.2.1
theorem eX11_many_112 : decode cX11_many 112 = .ok (.ireturn, 1) ∧ decode cX11_many 113 = .ok (.aload_n 0, 1) ∧ decode cX11_many 114 = .ok (.aload_n 0, 1) ∧ decode cX11_many 115 = .ok (.getfield 42, 3) ∧ decode cX11_many 118 = .ok (.getfield 195, 3) ∧ decode cX11_many 121 = .ok (.invokevirtual 156, 3) ∧ decode cX11_many 124 = .ok (.ireturn, 1) ∧ decode cX11_many 125 = .ok (.aload_n 2, 1) ∧ True := dkl_ok (c := cX11_many) [(.ireturn, 1), (.aload_n 0, 1), (.aload_n 0, 1), (.getfield 42, 3), (.getfield 195, 3), (.invokevirtual 156, 3), (.ireturn, 1), (.aload_n 2, 1)] 112 (by decide +kernel)
theorem dX11_many_112 : decode cX11_many 112 = .ok (.ireturn, 1) := eX11_many_112.1
theorem dX11_many_113 : decode cX11_many 113 = .ok (.aload_n 0, 1) := eX11_many_112.2.1
theorem dX11_many_114 : decode cX11_many 114 = .ok (.aload_n 0, 1) := eX11_many_112.2.2.1
theorem dX11_many_115 : decode cX11_many 115 = .ok (.getfield 42, 3) := eX11_many_112.2.2.2.1
theorem dX11_many_118 : decode cX11_many 118 = .ok (.getfield 195, 3) := eX11_many_112.2.2.2.2.1
theorem dX11_many_121 : decode cX11_many 121 = .ok (.invokevirtual 156, 3) := eX11_many_112.2.2.2.2.2.1
theorem dX11_many_124 : decode cX11_many 124 = .ok (.ireturn, 1) := eX11_many_112.2.2.2.2.2.2.1
theorem dX11_many_125 : decode cX11_many 125 = .ok (.aload_n 2, 1) := eX11_many_112.2.2.2.2.2.2.2.1
theorem eX11_many_126 : decode cX11_many 126 = .ok (.getfield 151, 3) ∧ decode cX11_many 129 = .ok (.ifCond .ne 12, 3) ∧ decode cX11_many 132 = .ok (.aload_n 0, 1) ∧ decode cX11_many 133 = .ok (.bipush 8, 2) ∧ decode cX11_many 135 = .ok (.invokevirtual 109, 3) ∧ decode cX11_many 138 = .ok (.goto 14, 3) ∧ decode cX11_many 141 = .ok (.aload_n 0, 1) ∧ decode cX11_many 142 = .ok (.aload_n 0, 1) ∧ True := dkl_ok (c := cX11_many) [(.getfield 151, 3), (.ifCond .ne 12, 3), (.aload_n 0, 1), (.bipush 8, 2), (.invokevirtual 109, 3), (.goto 14, 3), (.aload_n 0, 1), (.aload_n 0, 1)] 126 (by decide +kernel)
theorem dX11_many_126 : decode cX11_many 126 = .ok (.getfield 151, 3) := eX11_many_126.1
theorem dX11_many_129 : decode cX11_many 129 = .ok (.ifCond .ne 12, 3) := eX11_many_126.2.1
theorem dX11_many_132 : decode cX11_many 132 = .ok (.aload_n 0, 1) := eX11_many_126.2.2.1
theorem dX11_many_133 : decode cX11_many 133 = .ok (.bipush 8, 2) := eX11_many_126.2.2.2.1
theorem dX11_many_135 : decode cX11_many 135 = .ok (.invokevirtual 109, 3) := eX11_many_126.2.2.2.2.1
theorem dX11_many_138 : decode cX11_many 138 = .ok (.goto 14, 3) := eX11_many_126.2.2.2.2.2.1
theorem dX11_many_141 : decode cX11_many 141 = .ok (.aload_n 0, 1) := eX11_many_126.2.2.2.2.2.2.1
theorem dX11_many_142 : decode cX11_many 142 = .ok (.aload_n 0, 1) := eX11_many_126.2.2.2.2.2.2.2.1
theorem eX11_many_143 : decode cX11_many 143 = .ok (.getfield 42, 3) ∧ decode cX11_many 146 = .ok (.getfield 198, 3) ∧ decode cX11_many 149 = .ok (.invokevirtual 156, 3) ∧ decode cX11_many 152 = .ok (.ireturn, 1) ∧ decode cX11_many 153 = .ok (.aload_n 0, 1) ∧ decode cX11_many 154 = .ok (.aload_n 0, 1) ∧ decode cX11_many 155 = .ok (.getfield 42, 3) ∧ decode cX11_many 158 = .ok (.getfield 201, 3) ∧ True := dkl_ok (c := cX11_many) [(.getfield 42, 3), (.getfield 198, 3), (.invokevirtual 156, 3), (.ireturn, 1), (.aload_n 0, 1), (.aload_n 0, 1), (.getfield 42, 3), (.getfield 201, 3)] 143 (by decide +kernel)
theorem dX11_many_143 : decode cX11_many 143 = .ok (.getfield 42, 3) := eX11_many_143.1
theorem dX11_many_146 : decode cX11_many 146 = .ok (.getfield 198, 3) := eX11_many_143.2.1
theorem dX11_many_149 : decode cX11_many 149 = .ok (.invokevirtual 156, 3) := eX11_many_143.2.2.1
theorem dX11_many_152 : decode cX11_many 152 = .ok (.ireturn, 1) := eX11_many_143.2.2.2.1
theorem dX11_many_153 : decode cX11_many 153 = .ok (.aload_n 0, 1) := eX11_many_143.2.2.2.2.1
theorem dX11_many_154 : decode cX11_many 154 = .ok (.aload_n 0, 1) := eX11_many_143.2.2.2.2.2.1
theorem dX11_many_155 : decode cX11_many 155 = .ok (.getfield 42, 3) := eX11_many_143.2.2.2.2.2.2.1
theorem dX11_many_158 : decode cX11_many 158 = .ok (.getfield 201, 3) := eX11_many_143.2.2.2.2.2.2.2.1
theorem eX11_many_161 : decode cX11_many 161 = .ok (.getfield 205, 3) ∧ decode cX11_many 164 = .ok (.invokevirtual 156, 3) ∧ decode cX11_many 167 = .ok (.ireturn, 1) ∧ decode cX11_many 168 = .ok (.aload_n 0, 1) ∧ decode cX11_many 169 = .ok (.aload_n 0, 1) ∧ decode cX11_many 170 = .ok (.getfield 42, 3) ∧ decode cX11_many 173 = .ok (.getfield 210, 3) ∧ decode cX11_many 176 = .ok (.ifCond .eq 7, 3) ∧ True := dkl_ok (c := cX11_many) [(.getfield 205, 3), (.invokevirtual 156, 3), (.ireturn, 1), (.aload_n 0, 1), (.aload_n 0, 1), (.getfield 42, 3), (.getfield 210, 3), (.ifCond .eq 7, 3)] 161 (by decide +kernel)
theorem dX11_many_161 : decode cX11_many 161 = .ok (.getfield 205, 3) := eX11_many_161.1
theorem dX11_many_164 : decode cX11_many 164 = .ok (.invokevirtual 156, 3) := eX11_many_161.2.1
theorem dX11_many_167 : decode cX11_many 167 = .ok (.ireturn, 1) := eX11_many_161.2.2.1
theorem dX11_many_168 : decode cX11_many 168 = .ok (.aload_n 0, 1) := eX11_many_161.2.2.2.1
theorem dX11_many_169 : decode cX11_many 169 = .ok (.aload_n 0, 1) := eX11_many_161.2.2.2.2.1
theorem dX11_many_170 : decode cX11_many 170 = .ok (.getfield 42, 3) := eX11_many_161.2.2.2.2.2.1
theorem dX11_many_173 : decode cX11_many 173 = .ok (.getfield 210, 3) := eX11_many_161.2.2.2.2.2.2.1
theorem dX11_many_176 : decode cX11_many 176 = .ok (.ifCond .eq 7, 3) := eX11_many_161.2.2.2.2.2.2.2.1
theorem eX11_many_179 : decode cX11_many 179 = .ok (.iconst 1, 1) ∧ decode cX11_many 180 = .ok (.goto 4, 3) ∧ decode cX11_many 183 = .ok (.iconst 0, 1) ∧ decode cX11_many 184 = .ok (.invokevirtual 156, 3) ∧ decode cX11_many 187 = .ok (.ireturn, 1) ∧ decode cX11_many 188 = .ok (.aload_n 0, 1) ∧ decode cX11_many 189 = .ok (.getfield 42, 3) ∧ decode cX11_many 192 = .ok (.getfield 213, 3) ∧ True := dkl_ok (c := cX11_many) [(.iconst 1, 1), (.goto 4, 3), (.iconst 0, 1), (.invokevirtual 156, 3), (.ireturn, 1), (.aload_n 0, 1), (.getfield 42, 3), (.getfield 213, 3)] 179 (by decide +kernel)
theorem dX11_many_179 : decode cX11_many 179 = .ok (.iconst 1, 1) := eX11_many_179.1
theorem dX11_many_180 : decode cX11_many 180 = .ok (.goto 4, 3) := eX11_many_179.2.1
theorem dX11_many_183 : decode cX11_many 183 = .ok (.iconst 0, 1) := eX11_many_179.2.2.1
theorem dX11_many_184 : decode cX11_many 184 = .ok (.invokevirtual 156, 3) := eX11_many_179.2.2.2.1
theorem dX11_many_187 : decode cX11_many 187 = .ok (.ireturn, 1) := eX11_many_179.2.2.2.2.1
theorem dX11_many_188 : decode cX11_many 188 = .ok (.aload_n 0, 1) := eX11_many_179.2.2.2.2.2.1
theorem dX11_many_189 : decode cX11_many 189 = .ok (.getfield 42, 3) := eX11_many_179.2.2.2.2.2.2.1
theorem dX11_many_192 : decode cX11_many 192 = .ok (.getfield 213, 3) := eX11_many_179.2.2.2.2.2.2.2.1
theorem eX11_many_195 : decode cX11_many 195 = .ok (.iconst (-1), 1) ∧ decode cX11_many 196 = .ok (.if_icmp .ne 12, 3) ∧ decode cX11_many 199 = .ok (.aload_n 0, 1) ∧ decode cX11_many 200 = .ok (.bipush 8, 2) ∧ decode cX11_many 202 = .ok (.invokevirtual 109, 3) ∧ decode cX11_many 205 = .ok (.goto 14, 3) ∧ decode cX11_many 208 = .ok (.aload_n 0, 1) ∧ decode cX11_many 209 = .ok (.aload_n 0, 1) ∧ True := dkl_ok (c := cX11_many) [(.iconst (-1), 1), (.if_icmp .ne 12, 3), (.aload_n 0, 1), (.bipush 8, 2), (.invokevirtual 109, 3), (.goto 14, 3), (.aload_n 0, 1), (.aload_n 0, 1)] 195 (by decide +kernel)
theorem dX11_many_195 : decode cX11_many 195 = .ok (.iconst (-1), 1) := eX11_many_195.1
theorem dX11_many_196 : decode cX11_many 196 = .ok (.if_icmp .ne 12, 3) := eX11_many_195.2.1
theorem dX11_many_199 : decode cX11_many 199 = .ok (.aload_n 0, 1) := eX11_many_195.2.2.1
theorem dX11_many_200 : decode cX11_many 200 = .ok (.bipush 8, 2) := eX11_many_195.2.2.2.1
theorem dX11_many_202 : decode cX11_many 202 = .ok (.invokevirtual 109, 3) := eX11_many_195.2.2.2.2.1
theorem dX11_many_205 : decode cX11_many 205 = .ok (.goto 14, 3) := eX11_many_195.2.2.2.2.2.1
theorem dX11_many_208 : decode cX11_many 208 = .ok (.aload_n 0, 1) := eX11_many_195.2.2.2.2.2.2.1
theorem dX11_many_209 : decode cX11_many 209 = .ok (.aload_n 0, 1) := eX11_many_195.2.2.2.2.2.2.2.1
theorem eX11_many_210 : decode cX11_many 210 = .ok (.getfield 42, 3) ∧ decode cX11_many 213 = .ok (.getfield 213, 3) ∧ decode cX11_many 216 = .ok (.invokevirtual 156, 3) ∧ decode cX11_many 219 = .ok (.ireturn, 1) ∧ decode cX11_many 220 = .ok (.aload_n 0, 1) ∧ decode cX11_many 221 = .ok (.aload_n 0, 1) ∧ decode cX11_many 222 = .ok (.getfield 42, 3) ∧ decode cX11_many 225 = .ok (.getfield 201, 3) ∧ True := dkl_ok (c := cX11_many) [(.getfield 42, 3), (.getfield 213, 3), (.invokevirtual 156, 3), (.ireturn, 1), (.aload_n 0, 1), (.aload_n 0, 1), (.getfield 42, 3), (.getfield 201, 3)] 210 (by decide +kernel)
theorem dX11_many_210 : decode cX11_many 210 = .ok (.getfield 42, 3) := eX11_many_210.1
theorem dX11_many_213 : decode cX11_many 213 = .ok (.getfield 213, 3) := eX11_many_210.2.1
theorem dX11_many_216 : decode cX11_many 216 = .ok (.invokevirtual 156, 3) := eX11_many_210.2.2.1
theorem dX11_many_219 : decode cX11_many 219 = .ok (.ireturn, 1) := eX11_many_210.2.2.2.1
theorem dX11_many_220 : decode cX11_many 220 = .ok (.aload_n 0, 1) := eX11_many_210.2.2.2.2.1
theorem dX11_many_221 : decode cX11_many 221 = .ok (.aload_n 0, 1) := eX11_many_210.2.2.2.2.2.1
theorem dX11_many_222 : decode cX11_many 222 = .ok (.getfield 42, 3) := eX11_many_210.2.2.2.2.2.2.1
theorem dX11_many_225 : decode cX11_many 225 = .ok (.getfield 201, 3) := eX11_many_210.2.2.2.2.2.2.2.1
theorem eX11_many_228 : decode cX11_many 228 = .ok (.getfield 216, 3) ∧ decode cX11_many 231 = .ok (.invokevirtual 156, 3) ∧ decode cX11_many 234 = .ok (.ireturn, 1) ∧ decode cX11_many 235 = .ok (.aload_n 0, 1) ∧ decode cX11_many 236 = .ok (.iconst 5, 1) ∧ decode cX11_many 237 = .ok (.invokevirtual 109, 3) ∧ decode cX11_many 240 = .ok (.ireturn, 1) ∧ True := dkl_ok (c := cX11_many) [(.getfield 216, 3), (.invokevirtual 156, 3), (.ireturn, 1), (.aload_n 0, 1), (.iconst 5, 1), (.invokevirtual 109, 3), (.ireturn, 1)] 228 (by decide +kernel)
theorem dX11_many_228 : decode cX11_many 228 = .ok (.getfield 216, 3) := eX11_many_228.1
theorem dX11_many_231 : decode cX11_many 231 = .ok (.invokevirtual 156, 3) := eX11_many_228.2.1
theorem dX11_many_234 : decode cX11_many 234 = .ok (.ireturn, 1) := eX11_many_228.2.2.1
theorem dX11_many_235 : decode cX11_many 235 = .ok (.aload_n 0, 1) := eX11_many_228.2.2.2.1
theorem dX11_many_236 : decode cX11_many 236 = .ok (.iconst 5, 1) := eX11_many_228.2.2.2.2.1
theorem dX11_many_237 : decode cX11_many 237 = .ok (.invokevirtual 109, 3) := eX11_many_228.2.2.2.2.2.1
theorem dX11_many_240 : decode cX11_many 240 = .ok (.ireturn, 1) := eX11_many_228.2.2.2.2.2.2.1
theorem eX11_player_0 : decode cX11_player 0 = .ok (.aload_n 0, 1) ∧ decode cX11_player 1 = .ok (.iload_n 1, 1) ∧ decode cX11_player 2 = .ok (.invokevirtual 219, 3) ∧ decode cX11_player 5 = .ok (.ifCond .ne 9, 3) ∧ decode cX11_player 8 = .ok (.aload_n 0, 1) ∧ decode cX11_player 9 = .ok (.iconst 2, 1) ∧ decode cX11_player 10 = .ok (.invokevirtual 109, 3) ∧ decode cX11_player 13 = .ok (.ireturn, 1) ∧ True := dkl_ok (c := cX11_player) [(.aload_n 0, 1), (.iload_n 1, 1), (.invokevirtual 219, 3), (.ifCond .ne 9, 3), (.aload_n 0, 1), (.iconst 2, 1), (.invokevirtual 109, 3), (.ireturn, 1)] 0 (by decide +kernel)
theorem dX11_player_0 : decode cX11_player 0 = .ok (.aload_n 0, 1) := eX11_player_0.1
theorem dX11_player_1 : decode cX11_player 1 = .ok (.iload_n 1, 1) := eX11_player_0.2.1
theorem dX11_player_2 : decode cX11_player 2 = .ok (.invokevirtual 219, 3) := eX11_player_0.2.2.1
theorem dX11_player_5 : decode cX11_player 5 = .ok (.ifCond .ne 9, 3) := eX11_player_0.2.2.2.1
theorem dX11_player_8 : decode cX11_player 8 = .ok (.aload_n 0, 1) := eX11_player_0.2.2.2.2.1
theorem dX11_player_9 : decode cX11_player 9 = .ok (.iconst 2, 1) := eX11_player_0.2.2.2.2.2.1
theorem dX11_player_10 : decode cX11_player 10 = .ok (.invokevirtual 109, 3) := eX11_player_0.2.2.2.2.2.2.1
theorem dX11_player_13 : decode cX11_player 13 = .ok (.ireturn, 1) := eX11_player_0.2.2.2.2.2.2.2.1
theorem eX11_player_14 : decode cX11_player 14 = .ok (.aload_n 0, 1) ∧ decode cX11_player 15 = .ok (.getfield 42, 3) ∧ decode cX11_player 18 = .ok (.getfield 222, 3) ∧ decode cX11_player 21 = .ok (.astore_n 3, 1) ∧ decode cX11_player 22 = .ok (.iload_n 2, 1) ∧ True := dkl_ok (c := cX11_player) [(.aload_n 0, 1), (.getfield 42, 3), (.getfield 222, 3), (.astore_n 3, 1), (.iload_n 2, 1)] 14 (by decide +kernel)
theorem dX11_player_14 : decode cX11_player 14 = .ok (.aload_n 0, 1) := eX11_player_14.1
theorem dX11_player_15 : decode cX11_player 15 = .ok (.getfield 42, 3) := eX11_player_14.2.1
theorem dX11_player_18 : decode cX11_player 18 = .ok (.getfield 222, 3) := eX11_player_14.2.2.1
theorem dX11_player_21 : decode cX11_player 21 = .ok (.astore_n 3, 1) := eX11_player_14.2.2.2.1
theorem dX11_player_22 : decode cX11_player 22 = .ok (.iload_n 2, 1) := eX11_player_14.2.2.2.2.1
theorem dX11_player_23 : decode cX11_player 23 = .ok (.tableswitch 112 0 5 #[37, 50, 63, 76, 89, 102], 37) := d_of (by decide +kernel)
theorem eX11_player_60 : decode cX11_player 60 = .ok (.aload_n 0, 1) ∧ decode cX11_player 61 = .ok (.aload_n 3, 1) ∧ decode cX11_player 62 = .ok (.getfield 226, 3) ∧ decode cX11_player 65 = .ok (.iload_n 1, 1) ∧ decode cX11_player 66 = .ok (.invokevirtual 232, 3) ∧ decode cX11_player 69 = .ok (.invokevirtual 156, 3) ∧ decode cX11_player 72 = .ok (.ireturn, 1) ∧ decode cX11_player 73 = .ok (.aload_n 0, 1) ∧ True := dkl_ok (c := cX11_player) [(.aload_n 0, 1), (.aload_n 3, 1), (.getfield 226, 3), (.iload_n 1, 1), (.invokevirtual 232, 3), (.invokevirtual 156, 3), (.ireturn, 1), (.aload_n 0, 1)] 60 (by decide +kernel)
theorem dX11_player_60 : decode cX11_player 60 = .ok (.aload_n 0, 1) := eX11_player_60.1
theorem dX11_player_61 : decode cX11_player 61 = .ok (.aload_n 3, 1) := eX11_player_60.2.1
theorem dX11_player_62 : decode cX11_player 62 = .ok (.getfield 226, 3) := eX11_player_60.2.2.1
theorem dX11_player_65 : decode cX11_player 65 = .ok (.iload_n 1, 1) := eX11_player_60.2.2.2.1
theorem dX11_player_66 : decode cX11_player 66 = .ok (.invokevirtual 232, 3) := eX11_player_60.2.2.2.2.1
theorem dX11_player_69 : decode cX11_player 69 = .ok (.invokevirtual 156, 3) := eX11_player_60.2.2.2.2.2.1
theorem dX11_player_72 : decode cX11_player 72 = .ok (.ireturn, 1) := eX11_player_60.2.2.2.2.2.2.1
theorem dX11_player_73 : decode cX11_player 73 = .ok (.aload_n 0, 1) := eX11_player_60.2.2.2.2.2.2.2.1
theorem eX11_player_74 : decode cX11_player 74 = .ok (.aload_n 3, 1) ∧ decode cX11_player 75 = .ok (.getfield 236, 3) ∧ decode cX11_player 78 = .ok (.iload_n 1, 1) ∧ decode cX11_player 79 = .ok (.invokevirtual 232, 3) ∧ decode cX11_player 82 = .ok (.invokevirtual 156, 3) ∧ decode cX11_player 85 = .ok (.ireturn, 1) ∧ decode cX11_player 86 = .ok (.aload_n 0, 1) ∧ decode cX11_player 87 = .ok (.aload_n 3, 1) ∧ True := dkl_ok (c := cX11_player) [(.aload_n 3, 1), (.getfield 236, 3), (.iload_n 1, 1), (.invokevirtual 232, 3), (.invokevirtual 156, 3), (.ireturn, 1), (.aload_n 0, 1), (.aload_n 3, 1)] 74 (by decide +kernel)
theorem dX11_player_74 : decode cX11_player 74 = .ok (.aload_n 3, 1) := eX11_player_74.1
theorem dX11_player_75 : decode cX11_player 75 = .ok (.getfield 236, 3) := eX11_player_74.2.1
theorem dX11_player_78 : decode cX11_player 78 = .ok (.iload_n 1, 1) := eX11_player_74.2.2.1
theorem dX11_player_79 : decode cX11_player 79 = .ok (.invokevirtual 232, 3) := eX11_player_74.2.2.2.1
theorem dX11_player_82 : decode cX11_player 82 = .ok (.invokevirtual 156, 3) := eX11_player_74.2.2.2.2.1
theorem dX11_player_85 : decode cX11_player 85 = .ok (.ireturn, 1) := eX11_player_74.2.2.2.2.2.1
theorem dX11_player_86 : decode cX11_player 86 = .ok (.aload_n 0, 1) := eX11_player_74.2.2.2.2.2.2.1
theorem dX11_player_87 : decode cX11_player 87 = .ok (.aload_n 3, 1) := eX11_player_74.2.2.2.2.2.2.2.1
theorem eX11_player_88 : decode cX11_player 88 = .ok (.getfield 239, 3) ∧ decode cX11_player 91 = .ok (.iload_n 1, 1) ∧ decode cX11_player 92 = .ok (.invokevirtual 232, 3) ∧ decode cX11_player 95 = .ok (.invokevirtual 156, 3) ∧ decode cX11_player 98 = .ok (.ireturn, 1) ∧ decode cX11_player 99 = .ok (.aload_n 0, 1) ∧ decode cX11_player 100 = .ok (.aload_n 3, 1) ∧ decode cX11_player 101 = .ok (.getfield 241, 3) ∧ True := dkl_ok (c := cX11_player) [(.getfield 239, 3), (.iload_n 1, 1), (.invokevirtual 232, 3), (.invokevirtual 156, 3), (.ireturn, 1), (.aload_n 0, 1), (.aload_n 3, 1), (.getfield 241, 3)] 88 (by decide +kernel)
theorem dX11_player_88 : decode cX11_player 88 = .ok (.getfield 239, 3) := eX11_player_88.1
theorem dX11_player_91 : decode cX11_player 91 = .ok (.iload_n 1, 1) := eX11_player_88.2.1
theorem dX11_player_92 : decode cX11_player 92 = .ok (.invokevirtual 232, 3) := eX11_player_88.2.2.1
theorem dX11_player_95 : decode cX11_player 95 = .ok (.invokevirtual 156, 3) := eX11_player_88.2.2.2.1
theorem dX11_player_98 : decode cX11_player 98 = .ok (.ireturn, 1) := eX11_player_88.2.2.2.2.1
theorem dX11_player_99 : decode cX11_player 99 = .ok (.aload_n 0, 1) := eX11_player_88.2.2.2.2.2.1
theorem dX11_player_100 : decode cX11_player 100 = .ok (.aload_n 3, 1) := eX11_player_88.2.2.2.2.2.2.1
theorem dX11_player_101 : decode cX11_player 101 = .ok (.getfield 241, 3) := eX11_player_88.2.2.2.2.2.2.2.1
theorem eX11_player_104 : decode cX11_player 104 = .ok (.iload_n 1, 1) ∧ decode cX11_player 105 = .ok (.invokevirtual 232, 3) ∧ decode cX11_player 108 = .ok (.invokevirtual 156, 3) ∧ decode cX11_player 111 = .ok (.ireturn, 1) ∧ decode cX11_player 112 = .ok (.aload_n 0, 1) ∧ decode cX11_player 113 = .ok (.aload_n 3, 1) ∧ decode cX11_player 114 = .ok (.getfield 244, 3) ∧ decode cX11_player 117 = .ok (.iload_n 1, 1) ∧ True := dkl_ok (c := cX11_player) [(.iload_n 1, 1), (.invokevirtual 232, 3), (.invokevirtual 156, 3), (.ireturn, 1), (.aload_n 0, 1), (.aload_n 3, 1), (.getfield 244, 3), (.iload_n 1, 1)] 104 (by decide +kernel)
theorem dX11_player_104 : decode cX11_player 104 = .ok (.iload_n 1, 1) := eX11_player_104.1
theorem dX11_player_105 : decode cX11_player 105 = .ok (.invokevirtual 232, 3) := eX11_player_104.2.1
theorem dX11_player_108 : decode cX11_player 108 = .ok (.invokevirtual 156, 3) := eX11_player_104.2.2.1
theorem dX11_player_111 : decode cX11_player 111 = .ok (.ireturn, 1) := eX11_player_104.2.2.2.1
theorem dX11_player_112 : decode cX11_player 112 = .ok (.aload_n 0, 1) := eX11_player_104.2.2.2.2.1
theorem dX11_player_113 : decode cX11_player 113 = .ok (.aload_n 3, 1) := eX11_player_104.2.2.2.2.2.1
theorem dX11_player_114 : decode cX11_player 114 = .ok (.getfield 244, 3) := eX11_player_104.2.2.2.2.2.2.1
theorem dX11_player_117 : decode cX11_player 117 = .ok (.iload_n 1, 1) := eX11_player_104.2.2.2.2.2.2.2.1
theorem eX11_player_118 : decode cX11_player 118 = .ok (.invokevirtual 232, 3) ∧ decode cX11_player 121 = .ok (.invokevirtual 156, 3) ∧ decode cX11_player 124 = .ok (.ireturn, 1) ∧ decode cX11_player 125 = .ok (.aload_n 0, 1) ∧ decode cX11_player 126 = .ok (.aload_n 3, 1) ∧ decode cX11_player 127 = .ok (.iload_n 1, 1) ∧ decode cX11_player 128 = .ok (.invokevirtual 247, 3) ∧ decode cX11_player 131 = .ok (.invokevirtual 156, 3) ∧ True := dkl_ok (c := cX11_player) [(.invokevirtual 232, 3), (.invokevirtual 156, 3), (.ireturn, 1), (.aload_n 0, 1), (.aload_n 3, 1), (.iload_n 1, 1), (.invokevirtual 247, 3), (.invokevirtual 156, 3)] 118 (by decide +kernel)
theorem dX11_player_118 : decode cX11_player 118 = .ok (.invokevirtual 232, 3) := eX11_player_118.1
theorem dX11_player_121 : decode cX11_player 121 = .ok (.invokevirtual 156, 3) := eX11_player_118.2.1
theorem dX11_player_124 : decode cX11_player 124 = .ok (.ireturn, 1) := eX11_player_118.2.2.1
theorem dX11_player_125 : decode cX11_player 125 = .ok (.aload_n 0, 1) := eX11_player_118.2.2.2.1
theorem dX11_player_126 : decode cX11_player 126 = .ok (.aload_n 3, 1) := eX11_player_118.2.2.2.2.1
theorem dX11_player_127 : decode cX11_player 127 = .ok (.iload_n 1, 1) := eX11_player_118.2.2.2.2.2.1
theorem dX11_player_128 : decode cX11_player 128 = .ok (.invokevirtual 247, 3) := eX11_player_118.2.2.2.2.2.2.1
theorem dX11_player_131 : decode cX11_player 131 = .ok (.invokevirtual 156, 3) := eX11_player_118.2.2.2.2.2.2.2.1
theorem eX11_player_134 : decode cX11_player 134 = .ok (.ireturn, 1) ∧ decode cX11_player 135 = .ok (.aload_n 0, 1) ∧ decode cX11_player 136 = .ok (.iconst 5, 1) ∧ decode cX11_player 137 = .ok (.invokevirtual 109, 3) ∧ decode cX11_player 140 = .ok (.ireturn, 1) ∧ True := dkl_ok (c := cX11_player) [(.ireturn, 1), (.aload_n 0, 1), (.iconst 5, 1), (.invokevirtual 109, 3), (.ireturn, 1)] 134 (by decide +kernel)
theorem dX11_player_134 : decode cX11_player 134 = .ok (.ireturn, 1) := eX11_player_134.1
theorem dX11_player_135 : decode cX11_player 135 = .ok (.aload_n 0, 1) := eX11_player_134.2.1
theorem dX11_player_136 : decode cX11_player 136 = .ok (.iconst 5, 1) := eX11_player_134.2.2.1
theorem dX11_player_137 : decode cX11_player 137 = .ok (.invokevirtual 109, 3) := eX11_player_134.2.2.2.1
theorem dX11_player_140 : decode cX11_player 140 = .ok (.ireturn, 1) := eX11_player_134.2.2.2.2.1
theorem eX11_hand_0 : decode cX11_hand 0 = .ok (.aload_n 0, 1) ∧ decode cX11_hand 1 = .ok (.iload_n 1, 1) ∧ decode cX11_hand 2 = .ok (.invokevirtual 219, 3) ∧ decode cX11_hand 5 = .ok (.ifCond .eq 11, 3) ∧ decode cX11_hand 8 = .ok (.aload_n 0, 1) ∧ decode cX11_hand 9 = .ok (.iload_n 2, 1) ∧ decode cX11_hand 10 = .ok (.invokevirtual 250, 3) ∧ decode cX11_hand 13 = .ok (.ifCond .ne 9, 3) ∧ True := dkl_ok (c := cX11_hand) [(.aload_n 0, 1), (.iload_n 1, 1), (.invokevirtual 219, 3), (.ifCond .eq 11, 3), (.aload_n 0, 1), (.iload_n 2, 1), (.invokevirtual 250, 3), (.ifCond .ne 9, 3)] 0 (by decide +kernel)
theorem dX11_hand_0 : decode cX11_hand 0 = .ok (.aload_n 0, 1) := eX11_hand_0.1
theorem dX11_hand_1 : decode cX11_hand 1 = .ok (.iload_n 1, 1) := eX11_hand_0.2.1
theorem dX11_hand_2 : decode cX11_hand 2 = .ok (.invokevirtual 219, 3) := eX11_hand_0.2.2.1
theorem dX11_hand_5 : decode cX11_hand 5 = .ok (.ifCond .eq 11, 3) := eX11_hand_0.2.2.2.1
theorem dX11_hand_8 : decode cX11_hand 8 = .ok (.aload_n 0, 1) := eX11_hand_0.2.2.2.2.1
theorem dX11_hand_9 : decode cX11_hand 9 = .ok (.iload_n 2, 1) := eX11_hand_0.2.2.2.2.2.1
theorem dX11_hand_10 : decode cX11_hand 10 = .ok (.invokevirtual 250, 3) := eX11_hand_0.2.2.2.2.2.2.1
theorem dX11_hand_13 : decode cX11_hand 13 = .ok (.ifCond .ne 9, 3) := eX11_hand_0.2.2.2.2.2.2.2.1
theorem eX11_hand_16 : decode cX11_hand 16 = .ok (.aload_n 0, 1) ∧ decode cX11_hand 17 = .ok (.iconst 2, 1) ∧ decode cX11_hand 18 = .ok (.invokevirtual 109, 3) ∧ decode cX11_hand 21 = .ok (.ireturn, 1) ∧ decode cX11_hand 22 = .ok (.aload_n 0, 1) ∧ decode cX11_hand 23 = .ok (.aload_n 0, 1) ∧ decode cX11_hand 24 = .ok (.getfield 42, 3) ∧ decode cX11_hand 27 = .ok (.getfield 222, 3) ∧ True := dkl_ok (c := cX11_hand) [(.aload_n 0, 1), (.iconst 2, 1), (.invokevirtual 109, 3), (.ireturn, 1), (.aload_n 0, 1), (.aload_n 0, 1), (.getfield 42, 3), (.getfield 222, 3)] 16 (by decide +kernel)
theorem dX11_hand_16 : decode cX11_hand 16 = .ok (.aload_n 0, 1) := eX11_hand_16.1
theorem dX11_hand_17 : decode cX11_hand 17 = .ok (.iconst 2, 1) := eX11_hand_16.2.1
theorem dX11_hand_18 : decode cX11_hand 18 = .ok (.invokevirtual 109, 3) := eX11_hand_16.2.2.1
theorem dX11_hand_21 : decode cX11_hand 21 = .ok (.ireturn, 1) := eX11_hand_16.2.2.2.1
theorem dX11_hand_22 : decode cX11_hand 22 = .ok (.aload_n 0, 1) := eX11_hand_16.2.2.2.2.1
theorem dX11_hand_23 : decode cX11_hand 23 = .ok (.aload_n 0, 1) := eX11_hand_16.2.2.2.2.2.1
theorem dX11_hand_24 : decode cX11_hand 24 = .ok (.getfield 42, 3) := eX11_hand_16.2.2.2.2.2.2.1
theorem dX11_hand_27 : decode cX11_hand 27 = .ok (.getfield 222, 3) := eX11_hand_16.2.2.2.2.2.2.2.1
theorem eX11_hand_30 : decode cX11_hand 30 = .ok (.iload_n 1, 1) ∧ decode cX11_hand 31 = .ok (.iload_n 2, 1) ∧ decode cX11_hand 32 = .ok (.invokevirtual 253, 3) ∧ decode cX11_hand 35 = .ok (.invokevirtual 156, 3) ∧ decode cX11_hand 38 = .ok (.ireturn, 1) ∧ True := dkl_ok (c := cX11_hand) [(.iload_n 1, 1), (.iload_n 2, 1), (.invokevirtual 253, 3), (.invokevirtual 156, 3), (.ireturn, 1)] 30 (by decide +kernel)
theorem dX11_hand_30 : decode cX11_hand 30 = .ok (.iload_n 1, 1) := eX11_hand_30.1
theorem dX11_hand_31 : decode cX11_hand 31 = .ok (.iload_n 2, 1) := eX11_hand_30.2.1
theorem dX11_hand_32 : decode cX11_hand 32 = .ok (.invokevirtual 253, 3) := eX11_hand_30.2.2.1
theorem dX11_hand_35 : decode cX11_hand 35 = .ok (.invokevirtual 156, 3) := eX11_hand_30.2.2.2.1
theorem dX11_hand_38 : decode cX11_hand 38 = .ok (.ireturn, 1) := eX11_hand_30.2.2.2.2.1
theorem eX11_inGame_0 : decode cX11_inGame 0 = .ok (.aload_n 0, 1) ∧ decode cX11_inGame 1 = .ok (.iload_n 1, 1) ∧ decode cX11_inGame 2 = .ok (.invokevirtual 250, 3) ∧ decode cX11_inGame 5 = .ok (.ifCond .eq 24, 3) ∧ decode cX11_inGame 8 = .ok (.aload_n 0, 1) ∧ decode cX11_inGame 9 = .ok (.aload_n 0, 1) ∧ decode cX11_inGame 10 = .ok (.getfield 42, 3) ∧ decode cX11_inGame 13 = .ok (.getfield 147, 3) ∧ True := dkl_ok (c := cX11_inGame) [(.aload_n 0, 1), (.iload_n 1, 1), (.invokevirtual 250, 3), (.ifCond .eq 24, 3), (.aload_n 0, 1), (.aload_n 0, 1), (.getfield 42, 3), (.getfield 147, 3)] 0 (by decide +kernel)
theorem dX11_inGame_0 : decode cX11_inGame 0 = .ok (.aload_n 0, 1) := eX11_inGame_0.1
theorem dX11_inGame_1 : decode cX11_inGame 1 = .ok (.iload_n 1, 1) := eX11_inGame_0.2.1
theorem dX11_inGame_2 : decode cX11_inGame 2 = .ok (.invokevirtual 250, 3) := eX11_inGame_0.2.2.1
theorem dX11_inGame_5 : decode cX11_inGame 5 = .ok (.ifCond .eq 24, 3) := eX11_inGame_0.2.2.2.1
theorem dX11_inGame_8 : decode cX11_inGame 8 = .ok (.aload_n 0, 1) := eX11_inGame_0.2.2.2.2.1
theorem dX11_inGame_9 : decode cX11_inGame 9 = .ok (.aload_n 0, 1) := eX11_inGame_0.2.2.2.2.2.1
theorem dX11_inGame_10 : decode cX11_inGame 10 = .ok (.getfield 42, 3) := eX11_inGame_0.2.2.2.2.2.2.1
theorem dX11_inGame_13 : decode cX11_inGame 13 = .ok (.getfield 147, 3) := eX11_inGame_0.2.2.2.2.2.2.2.1
theorem eX11_inGame_16 : decode cX11_inGame 16 = .ok (.getfield 257, 3) ∧ decode cX11_inGame 19 = .ok (.iload_n 1, 1) ∧ decode cX11_inGame 20 = .ok (.invokevirtual 232, 3) ∧ decode cX11_inGame 23 = .ok (.invokevirtual 156, 3) ∧ decode cX11_inGame 26 = .ok (.goto 8, 3) ∧ decode cX11_inGame 29 = .ok (.aload_n 0, 1) ∧ decode cX11_inGame 30 = .ok (.iconst 2, 1) ∧ decode cX11_inGame 31 = .ok (.invokevirtual 109, 3) ∧ True := dkl_ok (c := cX11_inGame) [(.getfield 257, 3), (.iload_n 1, 1), (.invokevirtual 232, 3), (.invokevirtual 156, 3), (.goto 8, 3), (.aload_n 0, 1), (.iconst 2, 1), (.invokevirtual 109, 3)] 16 (by decide +kernel)
theorem dX11_inGame_16 : decode cX11_inGame 16 = .ok (.getfield 257, 3) := eX11_inGame_16.1
theorem dX11_inGame_19 : decode cX11_inGame 19 = .ok (.iload_n 1, 1) := eX11_inGame_16.2.1
theorem dX11_inGame_20 : decode cX11_inGame 20 = .ok (.invokevirtual 232, 3) := eX11_inGame_16.2.2.1
theorem dX11_inGame_23 : decode cX11_inGame 23 = .ok (.invokevirtual 156, 3) := eX11_inGame_16.2.2.2.1
theorem dX11_inGame_26 : decode cX11_inGame 26 = .ok (.goto 8, 3) := eX11_inGame_16.2.2.2.2.1
theorem dX11_inGame_29 : decode cX11_inGame 29 = .ok (.aload_n 0, 1) := eX11_inGame_16.2.2.2.2.2.1
theorem dX11_inGame_30 : decode cX11_inGame 30 = .ok (.iconst 2, 1) := eX11_inGame_16.2.2.2.2.2.2.1
theorem dX11_inGame_31 : decode cX11_inGame 31 = .ok (.invokevirtual 109, 3) := eX11_inGame_16.2.2.2.2.2.2.2.1
theorem eX11_inGame_34 : decode cX11_inGame 34 = .ok (.ireturn, 1) ∧ True := dkl_ok (c := cX11_inGame) [(.ireturn, 1)] 34 (by decide +kernel)
theorem dX11_inGame_34 : decode cX11_inGame 34 = .ok (.ireturn, 1) := eX11_inGame_34.1
theorem eX11_laying_0 : decode cX11_laying 0 = .ok (.iload_n 2, 1) ∧ decode cX11_laying 1 = .ok (.ifCond .lt 8, 3) ∧ decode cX11_laying 4 = .ok (.iload_n 2, 1) ∧ decode cX11_laying 5 = .ok (.iconst 3, 1) ∧ decode cX11_laying 6 = .ok (.if_icmp .le 9, 3) ∧ decode cX11_laying 9 = .ok (.aload_n 0, 1) ∧ decode cX11_laying 10 = .ok (.iconst 5, 1) ∧ decode cX11_laying 11 = .ok (.invokevirtual 109, 3) ∧ True := dkl_ok (c := cX11_laying) [(.iload_n 2, 1), (.ifCond .lt 8, 3), (.iload_n 2, 1), (.iconst 3, 1), (.if_icmp .le 9, 3), (.aload_n 0, 1), (.iconst 5, 1), (.invokevirtual 109, 3)] 0 (by decide +kernel)
theorem dX11_laying_0 : decode cX11_laying 0 = .ok (.iload_n 2, 1) := eX11_laying_0.1
theorem dX11_laying_1 : decode cX11_laying 1 = .ok (.ifCond .lt 8, 3) := eX11_laying_0.2.1
theorem dX11_laying_4 : decode cX11_laying 4 = .ok (.iload_n 2, 1) := eX11_laying_0.2.2.1
theorem dX11_laying_5 : decode cX11_laying 5 = .ok (.iconst 3, 1) := eX11_laying_0.2.2.2.1
theorem dX11_laying_6 : decode cX11_laying 6 = .ok (.if_icmp .le 9, 3) := eX11_laying_0.2.2.2.2.1
theorem dX11_laying_9 : decode cX11_laying 9 = .ok (.aload_n 0, 1) := eX11_laying_0.2.2.2.2.2.1
theorem dX11_laying_10 : decode cX11_laying 10 = .ok (.iconst 5, 1) := eX11_laying_0.2.2.2.2.2.2.1
theorem dX11_laying_11 : decode cX11_laying 11 = .ok (.invokevirtual 109, 3) := eX11_laying_0.2.2.2.2.2.2.2.1
theorem eX11_laying_14 : decode cX11_laying 14 = .ok (.ireturn, 1) ∧ decode cX11_laying 15 = .ok (.aload_n 0, 1) ∧ decode cX11_laying 16 = .ok (.getfield 42, 3) ∧ decode cX11_laying 19 = .ok (.getfield 201, 3) ∧ decode cX11_laying 22 = .ok (.astore_n 3, 1) ∧ decode cX11_laying 23 = .ok (.iload_n 1, 1) ∧ decode cX11_laying 24 = .ok (.ifCond .lt 11, 3) ∧ decode cX11_laying 27 = .ok (.iload_n 1, 1) ∧ True := dkl_ok (c := cX11_laying) [(.ireturn, 1), (.aload_n 0, 1), (.getfield 42, 3), (.getfield 201, 3), (.astore_n 3, 1), (.iload_n 1, 1), (.ifCond .lt 11, 3), (.iload_n 1, 1)] 14 (by decide +kernel)
theorem dX11_laying_14 : decode cX11_laying 14 = .ok (.ireturn, 1) := eX11_laying_14.1
theorem dX11_laying_15 : decode cX11_laying 15 = .ok (.aload_n 0, 1) := eX11_laying_14.2.1
theorem dX11_laying_16 : decode cX11_laying 16 = .ok (.getfield 42, 3) := eX11_laying_14.2.2.1
theorem dX11_laying_19 : decode cX11_laying 19 = .ok (.getfield 201, 3) := eX11_laying_14.2.2.2.1
theorem dX11_laying_22 : decode cX11_laying 22 = .ok (.astore_n 3, 1) := eX11_laying_14.2.2.2.2.1
theorem dX11_laying_23 : decode cX11_laying 23 = .ok (.iload_n 1, 1) := eX11_laying_14.2.2.2.2.2.1
theorem dX11_laying_24 : decode cX11_laying 24 = .ok (.ifCond .lt 11, 3) := eX11_laying_14.2.2.2.2.2.2.1
theorem dX11_laying_27 : decode cX11_laying 27 = .ok (.iload_n 1, 1) := eX11_laying_14.2.2.2.2.2.2.2.1
theorem eX11_laying_28 : decode cX11_laying 28 = .ok (.aload_n 3, 1) ∧ decode cX11_laying 29 = .ok (.getfield 216, 3) ∧ decode cX11_laying 32 = .ok (.if_icmp .lt 10, 3) ∧ decode cX11_laying 35 = .ok (.aload_n 0, 1) ∧ decode cX11_laying 36 = .ok (.bipush 8, 2) ∧ decode cX11_laying 38 = .ok (.invokevirtual 109, 3) ∧ decode cX11_laying 41 = .ok (.ireturn, 1) ∧ decode cX11_laying 42 = .ok (.iload_n 2, 1) ∧ True := dkl_ok (c := cX11_laying) [(.aload_n 3, 1), (.getfield 216, 3), (.if_icmp .lt 10, 3), (.aload_n 0, 1), (.bipush 8, 2), (.invokevirtual 109, 3), (.ireturn, 1), (.iload_n 2, 1)] 28 (by decide +kernel)
theorem dX11_laying_28 : decode cX11_laying 28 = .ok (.aload_n 3, 1) := eX11_laying_28.1
theorem dX11_laying_29 : decode cX11_laying 29 = .ok (.getfield 216, 3) := eX11_laying_28.2.1
theorem dX11_laying_32 : decode cX11_laying 32 = .ok (.if_icmp .lt 10, 3) := eX11_laying_28.2.2.1
theorem dX11_laying_35 : decode cX11_laying 35 = .ok (.aload_n 0, 1) := eX11_laying_28.2.2.2.1
theorem dX11_laying_36 : decode cX11_laying 36 = .ok (.bipush 8, 2) := eX11_laying_28.2.2.2.2.1
theorem dX11_laying_38 : decode cX11_laying 38 = .ok (.invokevirtual 109, 3) := eX11_laying_28.2.2.2.2.2.1
theorem dX11_laying_41 : decode cX11_laying 41 = .ok (.ireturn, 1) := eX11_laying_28.2.2.2.2.2.2.1
theorem dX11_laying_42 : decode cX11_laying 42 = .ok (.iload_n 2, 1) := eX11_laying_28.2.2.2.2.2.2.2.1
theorem dX11_laying_43 : decode cX11_laying 43 = .ok (.tableswitch 64 0 2 #[25, 38, 51], 25) := d_of (by decide +kernel)
theorem eX11_laying_68 : decode cX11_laying 68 = .ok (.aload_n 0, 1) ∧ decode cX11_laying 69 = .ok (.aload_n 3, 1) ∧ decode cX11_laying 70 = .ok (.getfield 260, 3) ∧ decode cX11_laying 73 = .ok (.iload_n 1, 1) ∧ decode cX11_laying 74 = .ok (.invokevirtual 232, 3) ∧ decode cX11_laying 77 = .ok (.invokevirtual 156, 3) ∧ decode cX11_laying 80 = .ok (.ireturn, 1) ∧ decode cX11_laying 81 = .ok (.aload_n 0, 1) ∧ True := dkl_ok (c := cX11_laying) [(.aload_n 0, 1), (.aload_n 3, 1), (.getfield 260, 3), (.iload_n 1, 1), (.invokevirtual 232, 3), (.invokevirtual 156, 3), (.ireturn, 1), (.aload_n 0, 1)] 68 (by decide +kernel)
theorem dX11_laying_68 : decode cX11_laying 68 = .ok (.aload_n 0, 1) := eX11_laying_68.1
theorem dX11_laying_69 : decode cX11_laying 69 = .ok (.aload_n 3, 1) := eX11_laying_68.2.1
theorem dX11_laying_70 : decode cX11_laying 70 = .ok (.getfield 260, 3) := eX11_laying_68.2.2.1
theorem dX11_laying_73 : decode cX11_laying 73 = .ok (.iload_n 1, 1) := eX11_laying_68.2.2.2.1
theorem dX11_laying_74 : decode cX11_laying 74 = .ok (.invokevirtual 232, 3) := eX11_laying_68.2.2.2.2.1
theorem dX11_laying_77 : decode cX11_laying 77 = .ok (.invokevirtual 156, 3) := eX11_laying_68.2.2.2.2.2.1
theorem dX11_laying_80 : decode cX11_laying 80 = .ok (.ireturn, 1) := eX11_laying_68.2.2.2.2.2.2.1
theorem dX11_laying_81 : decode cX11_laying 81 = .ok (.aload_n 0, 1) := eX11_laying_68.2.2.2.2.2.2.2.1
theorem eX11_laying_82 : decode cX11_laying 82 = .ok (.aload_n 3, 1) ∧ decode cX11_laying 83 = .ok (.getfield 263, 3) ∧ decode cX11_laying 86 = .ok (.iload_n 1, 1) ∧ decode cX11_laying 87 = .ok (.invokevirtual 232, 3) ∧ decode cX11_laying 90 = .ok (.invokevirtual 156, 3) ∧ decode cX11_laying 93 = .ok (.ireturn, 1) ∧ decode cX11_laying 94 = .ok (.aload_n 0, 1) ∧ decode cX11_laying 95 = .ok (.aload_n 3, 1) ∧ True := dkl_ok (c := cX11_laying) [(.aload_n 3, 1), (.getfield 263, 3), (.iload_n 1, 1), (.invokevirtual 232, 3), (.invokevirtual 156, 3), (.ireturn, 1), (.aload_n 0, 1), (.aload_n 3, 1)] 82 (by decide +kernel)
theorem dX11_laying_82 : decode cX11_laying 82 = .ok (.aload_n 3, 1) := eX11_laying_82.1
theorem dX11_laying_83 : decode cX11_laying 83 = .ok (.getfield 263, 3) := eX11_laying_82.2.1
theorem dX11_laying_86 : decode cX11_laying 86 = .ok (.iload_n 1, 1) := eX11_laying_82.2.2.1
theorem dX11_laying_87 : decode cX11_laying 87 = .ok (.invokevirtual 232, 3) := eX11_laying_82.2.2.2.1
theorem dX11_laying_90 : decode cX11_laying 90 = .ok (.invokevirtual 156, 3) := eX11_laying_82.2.2.2.2.1
theorem dX11_laying_93 : decode cX11_laying 93 = .ok (.ireturn, 1) := eX11_laying_82.2.2.2.2.2.1
theorem dX11_laying_94 : decode cX11_laying 94 = .ok (.aload_n 0, 1) := eX11_laying_82.2.2.2.2.2.2.1
theorem dX11_laying_95 : decode cX11_laying 95 = .ok (.aload_n 3, 1) := eX11_laying_82.2.2.2.2.2.2.2.1
theorem eX11_laying_96 : decode cX11_laying 96 = .ok (.getfield 266, 3) ∧ decode cX11_laying 99 = .ok (.iload_n 1, 1) ∧ decode cX11_laying 100 = .ok (.invokevirtual 232, 3) ∧ decode cX11_laying 103 = .ok (.invokevirtual 156, 3) ∧ decode cX11_laying 106 = .ok (.ireturn, 1) ∧ decode cX11_laying 107 = .ok (.aload_n 0, 1) ∧ decode cX11_laying 108 = .ok (.aload_n 3, 1) ∧ decode cX11_laying 109 = .ok (.iload_n 1, 1) ∧ True := dkl_ok (c := cX11_laying) [(.getfield 266, 3), (.iload_n 1, 1), (.invokevirtual 232, 3), (.invokevirtual 156, 3), (.ireturn, 1), (.aload_n 0, 1), (.aload_n 3, 1), (.iload_n 1, 1)] 96 (by decide +kernel)
theorem dX11_laying_96 : decode cX11_laying 96 = .ok (.getfield 266, 3) := eX11_laying_96.1
theorem dX11_laying_99 : decode cX11_laying 99 = .ok (.iload_n 1, 1) := eX11_laying_96.2.1
theorem dX11_laying_100 : decode cX11_laying 100 = .ok (.invokevirtual 232, 3) := eX11_laying_96.2.2.1
theorem dX11_laying_103 : decode cX11_laying 103 = .ok (.invokevirtual 156, 3) := eX11_laying_96.2.2.2.1
theorem dX11_laying_106 : decode cX11_laying 106 = .ok (.ireturn, 1) := eX11_laying_96.2.2.2.2.1
theorem dX11_laying_107 : decode cX11_laying 107 = .ok (.aload_n 0, 1) := eX11_laying_96.2.2.2.2.2.1
theorem dX11_laying_108 : decode cX11_laying 108 = .ok (.aload_n 3, 1) := eX11_laying_96.2.2.2.2.2.2.1
theorem dX11_laying_109 : decode cX11_laying 109 = .ok (.iload_n 1, 1) := eX11_laying_96.2.2.2.2.2.2.2.1
theorem eX11_laying_110 : decode cX11_laying 110 = .ok (.invokevirtual 269, 3) ∧ decode cX11_laying 113 = .ok (.invokevirtual 156, 3) ∧ decode cX11_laying 116 = .ok (.ireturn, 1) ∧ True := dkl_ok (c := cX11_laying) [(.invokevirtual 269, 3), (.invokevirtual 156, 3), (.ireturn, 1)] 110 (by decide +kernel)
theorem dX11_laying_110 : decode cX11_laying 110 = .ok (.invokevirtual 269, 3) := eX11_laying_110.1
theorem dX11_laying_113 : decode cX11_laying 113 = .ok (.invokevirtual 156, 3) := eX11_laying_110.2.1
theorem dX11_laying_116 : decode cX11_laying 116 = .ok (.ireturn, 1) := eX11_laying_110.2.2.1
theorem eX11_cardOf_0 : decode cX11_cardOf 0 = .ok (.aload_n 0, 1) ∧ decode cX11_cardOf 1 = .ok (.getfield 42, 3) ∧ decode cX11_cardOf 4 = .ok (.getfield 201, 3) ∧ decode cX11_cardOf 7 = .ok (.astore_n 3, 1) ∧ decode cX11_cardOf 8 = .ok (.iload_n 1, 1) ∧ decode cX11_cardOf 9 = .ok (.ifCond .lt 27, 3) ∧ decode cX11_cardOf 12 = .ok (.iload_n 1, 1) ∧ decode cX11_cardOf 13 = .ok (.aload_n 3, 1) ∧ True := dkl_ok (c := cX11_cardOf) [(.aload_n 0, 1), (.getfield 42, 3), (.getfield 201, 3), (.astore_n 3, 1), (.iload_n 1, 1), (.ifCond .lt 27, 3), (.iload_n 1, 1), (.aload_n 3, 1)] 0 (by decide +kernel)
theorem dX11_cardOf_0 : decode cX11_cardOf 0 = .ok (.aload_n 0, 1) := eX11_cardOf_0.1
theorem dX11_cardOf_1 : decode cX11_cardOf 1 = .ok (.getfield 42, 3) := eX11_cardOf_0.2.1
theorem dX11_cardOf_4 : decode cX11_cardOf 4 = .ok (.getfield 201, 3) := eX11_cardOf_0.2.2.1
theorem dX11_cardOf_7 : decode cX11_cardOf 7 = .ok (.astore_n 3, 1) := eX11_cardOf_0.2.2.2.1
theorem dX11_cardOf_8 : decode cX11_cardOf 8 = .ok (.iload_n 1, 1) := eX11_cardOf_0.2.2.2.2.1
theorem dX11_cardOf_9 : decode cX11_cardOf 9 = .ok (.ifCond .lt 27, 3) := eX11_cardOf_0.2.2.2.2.2.1
theorem dX11_cardOf_12 : decode cX11_cardOf 12 = .ok (.iload_n 1, 1) := eX11_cardOf_0.2.2.2.2.2.2.1
theorem dX11_cardOf_13 : decode cX11_cardOf 13 = .ok (.aload_n 3, 1) := eX11_cardOf_0.2.2.2.2.2.2.2.1
theorem eX11_cardOf_14 : decode cX11_cardOf 14 = .ok (.getfield 216, 3) ∧ decode cX11_cardOf 17 = .ok (.if_icmp .ge 19, 3) ∧ decode cX11_cardOf 20 = .ok (.iload_n 2, 1) ∧ decode cX11_cardOf 21 = .ok (.ifCond .lt 15, 3) ∧ decode cX11_cardOf 24 = .ok (.iload_n 2, 1) ∧ decode cX11_cardOf 25 = .ok (.aload_n 3, 1) ∧ decode cX11_cardOf 26 = .ok (.getfield 266, 3) ∧ decode cX11_cardOf 29 = .ok (.iload_n 1, 1) ∧ True := dkl_ok (c := cX11_cardOf) [(.getfield 216, 3), (.if_icmp .ge 19, 3), (.iload_n 2, 1), (.ifCond .lt 15, 3), (.iload_n 2, 1), (.aload_n 3, 1), (.getfield 266, 3), (.iload_n 1, 1)] 14 (by decide +kernel)
theorem dX11_cardOf_14 : decode cX11_cardOf 14 = .ok (.getfield 216, 3) := eX11_cardOf_14.1
theorem dX11_cardOf_17 : decode cX11_cardOf 17 = .ok (.if_icmp .ge 19, 3) := eX11_cardOf_14.2.1
theorem dX11_cardOf_20 : decode cX11_cardOf 20 = .ok (.iload_n 2, 1) := eX11_cardOf_14.2.2.1
theorem dX11_cardOf_21 : decode cX11_cardOf 21 = .ok (.ifCond .lt 15, 3) := eX11_cardOf_14.2.2.2.1
theorem dX11_cardOf_24 : decode cX11_cardOf 24 = .ok (.iload_n 2, 1) := eX11_cardOf_14.2.2.2.2.1
theorem dX11_cardOf_25 : decode cX11_cardOf 25 = .ok (.aload_n 3, 1) := eX11_cardOf_14.2.2.2.2.2.1
theorem dX11_cardOf_26 : decode cX11_cardOf 26 = .ok (.getfield 266, 3) := eX11_cardOf_14.2.2.2.2.2.2.1
theorem dX11_cardOf_29 : decode cX11_cardOf 29 = .ok (.iload_n 1, 1) := eX11_cardOf_14.2.2.2.2.2.2.2.1
theorem eX11_cardOf_30 : decode cX11_cardOf 30 = .ok (.invokevirtual 232, 3) ∧ decode cX11_cardOf 33 = .ok (.if_icmp .lt 10, 3) ∧ decode cX11_cardOf 36 = .ok (.aload_n 0, 1) ∧ decode cX11_cardOf 37 = .ok (.bipush 8, 2) ∧ decode cX11_cardOf 39 = .ok (.invokevirtual 109, 3) ∧ decode cX11_cardOf 42 = .ok (.ireturn, 1) ∧ decode cX11_cardOf 43 = .ok (.aload_n 0, 1) ∧ decode cX11_cardOf 44 = .ok (.aload_n 3, 1) ∧ True := dkl_ok (c := cX11_cardOf) [(.invokevirtual 232, 3), (.if_icmp .lt 10, 3), (.aload_n 0, 1), (.bipush 8, 2), (.invokevirtual 109, 3), (.ireturn, 1), (.aload_n 0, 1), (.aload_n 3, 1)] 30 (by decide +kernel)
theorem dX11_cardOf_30 : decode cX11_cardOf 30 = .ok (.invokevirtual 232, 3) := eX11_cardOf_30.1
theorem dX11_cardOf_33 : decode cX11_cardOf 33 = .ok (.if_icmp .lt 10, 3) := eX11_cardOf_30.2.1
theorem dX11_cardOf_36 : decode cX11_cardOf 36 = .ok (.aload_n 0, 1) := eX11_cardOf_30.2.2.1
theorem dX11_cardOf_37 : decode cX11_cardOf 37 = .ok (.bipush 8, 2) := eX11_cardOf_30.2.2.2.1
theorem dX11_cardOf_39 : decode cX11_cardOf 39 = .ok (.invokevirtual 109, 3) := eX11_cardOf_30.2.2.2.2.1
theorem dX11_cardOf_42 : decode cX11_cardOf 42 = .ok (.ireturn, 1) := eX11_cardOf_30.2.2.2.2.2.1
theorem dX11_cardOf_43 : decode cX11_cardOf 43 = .ok (.aload_n 0, 1) := eX11_cardOf_30.2.2.2.2.2.2.1
theorem dX11_cardOf_44 : decode cX11_cardOf 44 = .ok (.aload_n 3, 1) := eX11_cardOf_30.2.2.2.2.2.2.2.1
theorem eX11_cardOf_45 : decode cX11_cardOf 45 = .ok (.iload_n 1, 1) ∧ decode cX11_cardOf 46 = .ok (.iload_n 2, 1) ∧ decode cX11_cardOf 47 = .ok (.invokevirtual 272, 3) ∧ decode cX11_cardOf 50 = .ok (.invokevirtual 156, 3) ∧ decode cX11_cardOf 53 = .ok (.ireturn, 1) ∧ True := dkl_ok (c := cX11_cardOf) [(.iload_n 1, 1), (.iload_n 2, 1), (.invokevirtual 272, 3), (.invokevirtual 156, 3), (.ireturn, 1)] 45 (by decide +kernel)
theorem dX11_cardOf_45 : decode cX11_cardOf 45 = .ok (.iload_n 1, 1) := eX11_cardOf_45.1
theorem dX11_cardOf_46 : decode cX11_cardOf 46 = .ok (.iload_n 2, 1) := eX11_cardOf_45.2.1
theorem dX11_cardOf_47 : decode cX11_cardOf 47 = .ok (.invokevirtual 272, 3) := eX11_cardOf_45.2.2.1
theorem dX11_cardOf_50 : decode cX11_cardOf 50 = .ok (.invokevirtual 156, 3) := eX11_cardOf_45.2.2.2.1
theorem dX11_cardOf_53 : decode cX11_cardOf 53 = .ok (.ireturn, 1) := eX11_cardOf_45.2.2.2.2.1
theorem eX11_copyHand_0 : decode cX11_copyHand 0 = .ok (.aload_n 0, 1) ∧ decode cX11_copyHand 1 = .ok (.iload_n 2, 1) ∧ decode cX11_copyHand 2 = .ok (.invokevirtual 85, 3) ∧ decode cX11_copyHand 5 = .ok (.astore_n 3, 1) ∧ decode cX11_copyHand 6 = .ok (.aload_n 3, 1) ∧ decode cX11_copyHand 7 = .ok (.ifnonnull 9, 3) ∧ decode cX11_copyHand 10 = .ok (.aload_n 0, 1) ∧ decode cX11_copyHand 11 = .ok (.iconst 1, 1) ∧ True := dkl_ok (c := cX11_copyHand) [(.aload_n 0, 1), (.iload_n 2, 1), (.invokevirtual 85, 3), (.astore_n 3, 1), (.aload_n 3, 1), (.ifnonnull 9, 3), (.aload_n 0, 1), (.iconst 1, 1)] 0 (by decide +kernel)
theorem dX11_copyHand_0 : decode cX11_copyHand 0 = .ok (.aload_n 0, 1) := eX11_copyHand_0.1
theorem dX11_copyHand_1 : decode cX11_copyHand 1 = .ok (.iload_n 2, 1) := eX11_copyHand_0.2.1
theorem dX11_copyHand_2 : decode cX11_copyHand 2 = .ok (.invokevirtual 85, 3) := eX11_copyHand_0.2.2.1
theorem dX11_copyHand_5 : decode cX11_copyHand 5 = .ok (.astore_n 3, 1) := eX11_copyHand_0.2.2.2.1
theorem dX11_copyHand_6 : decode cX11_copyHand 6 = .ok (.aload_n 3, 1) := eX11_copyHand_0.2.2.2.2.1
theorem dX11_copyHand_7 : decode cX11_copyHand 7 = .ok (.ifnonnull 9, 3) := eX11_copyHand_0.2.2.2.2.2.1
theorem dX11_copyHand_10 : decode cX11_copyHand 10 = .ok (.aload_n 0, 1) := eX11_copyHand_0.2.2.2.2.2.2.1
theorem dX11_copyHand_11 : decode cX11_copyHand 11 = .ok (.iconst 1, 1) := eX11_copyHand_0.2.2.2.2.2.2.2.1
theorem eX11_copyHand_12 : decode cX11_copyHand 12 = .ok (.invokevirtual 109, 3) ∧ decode cX11_copyHand 15 = .ok (.ireturn, 1) ∧ decode cX11_copyHand 16 = .ok (.aload_n 3, 1) ∧ decode cX11_copyHand 17 = .ok (.invokevirtual 117, 3) ∧ decode cX11_copyHand 20 = .ok (.ifCond .eq 9, 3) ∧ decode cX11_copyHand 23 = .ok (.aload_n 0, 1) ∧ decode cX11_copyHand 24 = .ok (.iconst 3, 1) ∧ decode cX11_copyHand 25 = .ok (.invokevirtual 109, 3) ∧ True := dkl_ok (c := cX11_copyHand) [(.invokevirtual 109, 3), (.ireturn, 1), (.aload_n 3, 1), (.invokevirtual 117, 3), (.ifCond .eq 9, 3), (.aload_n 0, 1), (.iconst 3, 1), (.invokevirtual 109, 3)] 12 (by decide +kernel)
theorem dX11_copyHand_12 : decode cX11_copyHand 12 = .ok (.invokevirtual 109, 3) := eX11_copyHand_12.1
theorem dX11_copyHand_15 : decode cX11_copyHand 15 = .ok (.ireturn, 1) := eX11_copyHand_12.2.1
theorem dX11_copyHand_16 : decode cX11_copyHand 16 = .ok (.aload_n 3, 1) := eX11_copyHand_12.2.2.1
theorem dX11_copyHand_17 : decode cX11_copyHand 17 = .ok (.invokevirtual 117, 3) := eX11_copyHand_12.2.2.2.1
theorem dX11_copyHand_20 : decode cX11_copyHand 20 = .ok (.ifCond .eq 9, 3) := eX11_copyHand_12.2.2.2.2.1
theorem dX11_copyHand_23 : decode cX11_copyHand 23 = .ok (.aload_n 0, 1) := eX11_copyHand_12.2.2.2.2.2.1
theorem dX11_copyHand_24 : decode cX11_copyHand 24 = .ok (.iconst 3, 1) := eX11_copyHand_12.2.2.2.2.2.2.1
theorem dX11_copyHand_25 : decode cX11_copyHand 25 = .ok (.invokevirtual 109, 3) := eX11_copyHand_12.2.2.2.2.2.2.2.1
theorem eX11_copyHand_28 : decode cX11_copyHand 28 = .ok (.ireturn, 1) ∧ decode cX11_copyHand 29 = .ok (.aload_n 0, 1) ∧ decode cX11_copyHand 30 = .ok (.iload_n 1, 1) ∧ decode cX11_copyHand 31 = .ok (.invokevirtual 219, 3) ∧ decode cX11_copyHand 34 = .ok (.ifCond .ne 9, 3) ∧ decode cX11_copyHand 37 = .ok (.aload_n 0, 1) ∧ decode cX11_copyHand 38 = .ok (.iconst 2, 1) ∧ decode cX11_copyHand 39 = .ok (.invokevirtual 109, 3) ∧ True := dkl_ok (c := cX11_copyHand) [(.ireturn, 1), (.aload_n 0, 1), (.iload_n 1, 1), (.invokevirtual 219, 3), (.ifCond .ne 9, 3), (.aload_n 0, 1), (.iconst 2, 1), (.invokevirtual 109, 3)] 28 (by decide +kernel)
theorem dX11_copyHand_28 : decode cX11_copyHand 28 = .ok (.ireturn, 1) := eX11_copyHand_28.1
theorem dX11_copyHand_29 : decode cX11_copyHand 29 = .ok (.aload_n 0, 1) := eX11_copyHand_28.2.1
theorem dX11_copyHand_30 : decode cX11_copyHand 30 = .ok (.iload_n 1, 1) := eX11_copyHand_28.2.2.1
theorem dX11_copyHand_31 : decode cX11_copyHand 31 = .ok (.invokevirtual 219, 3) := eX11_copyHand_28.2.2.2.1
theorem dX11_copyHand_34 : decode cX11_copyHand 34 = .ok (.ifCond .ne 9, 3) := eX11_copyHand_28.2.2.2.2.1
theorem dX11_copyHand_37 : decode cX11_copyHand 37 = .ok (.aload_n 0, 1) := eX11_copyHand_28.2.2.2.2.2.1
theorem dX11_copyHand_38 : decode cX11_copyHand 38 = .ok (.iconst 2, 1) := eX11_copyHand_28.2.2.2.2.2.2.1
theorem dX11_copyHand_39 : decode cX11_copyHand 39 = .ok (.invokevirtual 109, 3) := eX11_copyHand_28.2.2.2.2.2.2.2.1
theorem eX11_copyHand_42 : decode cX11_copyHand 42 = .ok (.ireturn, 1) ∧ decode cX11_copyHand 43 = .ok (.aload_n 0, 1) ∧ decode cX11_copyHand 44 = .ok (.getfield 42, 3) ∧ decode cX11_copyHand 47 = .ok (.getfield 147, 3) ∧ decode cX11_copyHand 50 = .ok (.getfield 183, 3) ∧ decode cX11_copyHand 53 = .ok (.istore 4, 2) ∧ decode cX11_copyHand 55 = .ok (.aload_n 3, 1) ∧ decode cX11_copyHand 56 = .ok (.iconst 0, 1) ∧ True := dkl_ok (c := cX11_copyHand) [(.ireturn, 1), (.aload_n 0, 1), (.getfield 42, 3), (.getfield 147, 3), (.getfield 183, 3), (.istore 4, 2), (.aload_n 3, 1), (.iconst 0, 1)] 42 (by decide +kernel)
theorem dX11_copyHand_42 : decode cX11_copyHand 42 = .ok (.ireturn, 1) := eX11_copyHand_42.1
theorem dX11_copyHand_43 : decode cX11_copyHand 43 = .ok (.aload_n 0, 1) := eX11_copyHand_42.2.1
theorem dX11_copyHand_44 : decode cX11_copyHand 44 = .ok (.getfield 42, 3) := eX11_copyHand_42.2.2.1
theorem dX11_copyHand_47 : decode cX11_copyHand 47 = .ok (.getfield 147, 3) := eX11_copyHand_42.2.2.2.1
theorem dX11_copyHand_50 : decode cX11_copyHand 50 = .ok (.getfield 183, 3) := eX11_copyHand_42.2.2.2.2.1
theorem dX11_copyHand_53 : decode cX11_copyHand 53 = .ok (.istore 4, 2) := eX11_copyHand_42.2.2.2.2.2.1
theorem dX11_copyHand_55 : decode cX11_copyHand 55 = .ok (.aload_n 3, 1) := eX11_copyHand_42.2.2.2.2.2.2.1
theorem dX11_copyHand_56 : decode cX11_copyHand 56 = .ok (.iconst 0, 1) := eX11_copyHand_42.2.2.2.2.2.2.2.1
theorem eX11_copyHand_57 : decode cX11_copyHand 57 = .ok (.iload 4, 2) ∧ decode cX11_copyHand 59 = .ok (.invokevirtual 123, 3) ∧ decode cX11_copyHand 62 = .ok (.ifCond .ne 9, 3) ∧ decode cX11_copyHand 65 = .ok (.aload_n 0, 1) ∧ decode cX11_copyHand 66 = .ok (.iconst 4, 1) ∧ decode cX11_copyHand 67 = .ok (.invokevirtual 109, 3) ∧ decode cX11_copyHand 70 = .ok (.ireturn, 1) ∧ decode cX11_copyHand 71 = .ok (.iconst 0, 1) ∧ True := dkl_ok (c := cX11_copyHand) [(.iload 4, 2), (.invokevirtual 123, 3), (.ifCond .ne 9, 3), (.aload_n 0, 1), (.iconst 4, 1), (.invokevirtual 109, 3), (.ireturn, 1), (.iconst 0, 1)] 57 (by decide +kernel)
theorem dX11_copyHand_57 : decode cX11_copyHand 57 = .ok (.iload 4, 2) := eX11_copyHand_57.1
theorem dX11_copyHand_59 : decode cX11_copyHand 59 = .ok (.invokevirtual 123, 3) := eX11_copyHand_57.2.1
theorem dX11_copyHand_62 : decode cX11_copyHand 62 = .ok (.ifCond .ne 9, 3) := eX11_copyHand_57.2.2.1
theorem dX11_copyHand_65 : decode cX11_copyHand 65 = .ok (.aload_n 0, 1) := eX11_copyHand_57.2.2.2.1
theorem dX11_copyHand_66 : decode cX11_copyHand 66 = .ok (.iconst 4, 1) := eX11_copyHand_57.2.2.2.2.1
theorem dX11_copyHand_67 : decode cX11_copyHand 67 = .ok (.invokevirtual 109, 3) := eX11_copyHand_57.2.2.2.2.2.1
theorem dX11_copyHand_70 : decode cX11_copyHand 70 = .ok (.ireturn, 1) := eX11_copyHand_57.2.2.2.2.2.2.1
theorem dX11_copyHand_71 : decode cX11_copyHand 71 = .ok (.iconst 0, 1) := eX11_copyHand_57.2.2.2.2.2.2.2.1
theorem eX11_copyHand_72 : decode cX11_copyHand 72 = .ok (.istore 5, 2) ∧ decode cX11_copyHand 74 = .ok (.iload 5, 2) ∧ decode cX11_copyHand 76 = .ok (.iload 4, 2) ∧ decode cX11_copyHand 78 = .ok (.if_icmp .ge 29, 3) ∧ decode cX11_copyHand 81 = .ok (.aload_n 3, 1) ∧ decode cX11_copyHand 82 = .ok (.iload 5, 2) ∧ decode cX11_copyHand 84 = .ok (.aload_n 0, 1) ∧ decode cX11_copyHand 85 = .ok (.getfield 42, 3) ∧ True := dkl_ok (c := cX11_copyHand) [(.istore 5, 2), (.iload 5, 2), (.iload 4, 2), (.if_icmp .ge 29, 3), (.aload_n 3, 1), (.iload 5, 2), (.aload_n 0, 1), (.getfield 42, 3)] 72 (by decide +kernel)
theorem dX11_copyHand_72 : decode cX11_copyHand 72 = .ok (.istore 5, 2) := eX11_copyHand_72.1
theorem dX11_copyHand_74 : decode cX11_copyHand 74 = .ok (.iload 5, 2) := eX11_copyHand_72.2.1
theorem dX11_copyHand_76 : decode cX11_copyHand 76 = .ok (.iload 4, 2) := eX11_copyHand_72.2.2.1
theorem dX11_copyHand_78 : decode cX11_copyHand 78 = .ok (.if_icmp .ge 29, 3) := eX11_copyHand_72.2.2.2.1
theorem dX11_copyHand_81 : decode cX11_copyHand 81 = .ok (.aload_n 3, 1) := eX11_copyHand_72.2.2.2.2.1
theorem dX11_copyHand_82 : decode cX11_copyHand 82 = .ok (.iload 5, 2) := eX11_copyHand_72.2.2.2.2.2.1
theorem dX11_copyHand_84 : decode cX11_copyHand 84 = .ok (.aload_n 0, 1) := eX11_copyHand_72.2.2.2.2.2.2.1
theorem dX11_copyHand_85 : decode cX11_copyHand 85 = .ok (.getfield 42, 3) := eX11_copyHand_72.2.2.2.2.2.2.2.1
theorem eX11_copyHand_88 : decode cX11_copyHand 88 = .ok (.getfield 222, 3) ∧ decode cX11_copyHand 91 = .ok (.iload_n 1, 1) ∧ decode cX11_copyHand 92 = .ok (.iload 5, 2) ∧ decode cX11_copyHand 94 = .ok (.invokevirtual 253, 3) ∧ decode cX11_copyHand 97 = .ok (.i2l, 1) ∧ decode cX11_copyHand 98 = .ok (.invokevirtual 105, 3) ∧ decode cX11_copyHand 101 = .ok (.iinc 5 1, 3) ∧ decode cX11_copyHand 104 = .ok (.goto (-30), 3) ∧ True := dkl_ok (c := cX11_copyHand) [(.getfield 222, 3), (.iload_n 1, 1), (.iload 5, 2), (.invokevirtual 253, 3), (.i2l, 1), (.invokevirtual 105, 3), (.iinc 5 1, 3), (.goto (-30), 3)] 88 (by decide +kernel)
theorem dX11_copyHand_88 : decode cX11_copyHand 88 = .ok (.getfield 222, 3) := eX11_copyHand_88.1
theorem dX11_copyHand_91 : decode cX11_copyHand 91 = .ok (.iload_n 1, 1) := eX11_copyHand_88.2.1
theorem dX11_copyHand_92 : decode cX11_copyHand 92 = .ok (.iload 5, 2) := eX11_copyHand_88.2.2.1
theorem dX11_copyHand_94 : decode cX11_copyHand 94 = .ok (.invokevirtual 253, 3) := eX11_copyHand_88.2.2.2.1
theorem dX11_copyHand_97 : decode cX11_copyHand 97 = .ok (.i2l, 1) := eX11_copyHand_88.2.2.2.2.1
theorem dX11_copyHand_98 : decode cX11_copyHand 98 = .ok (.invokevirtual 105, 3) := eX11_copyHand_88.2.2.2.2.2.1
theorem dX11_copyHand_101 : decode cX11_copyHand 101 = .ok (.iinc 5 1, 3) := eX11_copyHand_88.2.2.2.2.2.2.1
theorem dX11_copyHand_104 : decode cX11_copyHand 104 = .ok (.goto (-30), 3) := eX11_copyHand_88.2.2.2.2.2.2.2.1
theorem eX11_copyHand_107 : decode cX11_copyHand 107 = .ok (.aload_n 0, 1) ∧ decode cX11_copyHand 108 = .ok (.iload 4, 2) ∧ decode cX11_copyHand 110 = .ok (.invokevirtual 156, 3) ∧ decode cX11_copyHand 113 = .ok (.ireturn, 1) ∧ True := dkl_ok (c := cX11_copyHand) [(.aload_n 0, 1), (.iload 4, 2), (.invokevirtual 156, 3), (.ireturn, 1)] 107 (by decide +kernel)
theorem dX11_copyHand_107 : decode cX11_copyHand 107 = .ok (.aload_n 0, 1) := eX11_copyHand_107.1
theorem dX11_copyHand_108 : decode cX11_copyHand 108 = .ok (.iload 4, 2) := eX11_copyHand_107.2.1
theorem dX11_copyHand_110 : decode cX11_copyHand 110 = .ok (.invokevirtual 156, 3) := eX11_copyHand_107.2.2.1
theorem dX11_copyHand_113 : decode cX11_copyHand 113 = .ok (.ireturn, 1) := eX11_copyHand_107.2.2.2.1
theorem eX11_lay_0 : decode cX11_lay 0 = .ok (.aload_n 0, 1) ∧ decode cX11_lay 1 = .ok (.iload_n 1, 1) ∧ decode cX11_lay 2 = .ok (.invokevirtual 275, 3) ∧ decode cX11_lay 5 = .ok (.ifCond .eq 28, 3) ∧ decode cX11_lay 8 = .ok (.aload_n 0, 1) ∧ decode cX11_lay 9 = .ok (.iload_n 2, 1) ∧ decode cX11_lay 10 = .ok (.invokevirtual 275, 3) ∧ decode cX11_lay 13 = .ok (.ifCond .eq 20, 3) ∧ True := dkl_ok (c := cX11_lay) [(.aload_n 0, 1), (.iload_n 1, 1), (.invokevirtual 275, 3), (.ifCond .eq 28, 3), (.aload_n 0, 1), (.iload_n 2, 1), (.invokevirtual 275, 3), (.ifCond .eq 20, 3)] 0 (by decide +kernel)
theorem dX11_lay_0 : decode cX11_lay 0 = .ok (.aload_n 0, 1) := eX11_lay_0.1
theorem dX11_lay_1 : decode cX11_lay 1 = .ok (.iload_n 1, 1) := eX11_lay_0.2.1
theorem dX11_lay_2 : decode cX11_lay 2 = .ok (.invokevirtual 275, 3) := eX11_lay_0.2.2.1
theorem dX11_lay_5 : decode cX11_lay 5 = .ok (.ifCond .eq 28, 3) := eX11_lay_0.2.2.2.1
theorem dX11_lay_8 : decode cX11_lay 8 = .ok (.aload_n 0, 1) := eX11_lay_0.2.2.2.2.1
theorem dX11_lay_9 : decode cX11_lay 9 = .ok (.iload_n 2, 1) := eX11_lay_0.2.2.2.2.2.1
theorem dX11_lay_10 : decode cX11_lay 10 = .ok (.invokevirtual 275, 3) := eX11_lay_0.2.2.2.2.2.2.1
theorem dX11_lay_13 : decode cX11_lay 13 = .ok (.ifCond .eq 20, 3) := eX11_lay_0.2.2.2.2.2.2.2.1
theorem eX11_lay_16 : decode cX11_lay 16 = .ok (.aload_n 0, 1) ∧ decode cX11_lay 17 = .ok (.iload_n 3, 1) ∧ decode cX11_lay 18 = .ok (.invokevirtual 275, 3) ∧ decode cX11_lay 21 = .ok (.ifCond .eq 12, 3) ∧ decode cX11_lay 24 = .ok (.aload_n 0, 1) ∧ decode cX11_lay 25 = .ok (.iload 4, 2) ∧ decode cX11_lay 27 = .ok (.invokevirtual 275, 3) ∧ decode cX11_lay 30 = .ok (.ifCond .ne 9, 3) ∧ True := dkl_ok (c := cX11_lay) [(.aload_n 0, 1), (.iload_n 3, 1), (.invokevirtual 275, 3), (.ifCond .eq 12, 3), (.aload_n 0, 1), (.iload 4, 2), (.invokevirtual 275, 3), (.ifCond .ne 9, 3)] 16 (by decide +kernel)
theorem dX11_lay_16 : decode cX11_lay 16 = .ok (.aload_n 0, 1) := eX11_lay_16.1
theorem dX11_lay_17 : decode cX11_lay 17 = .ok (.iload_n 3, 1) := eX11_lay_16.2.1
theorem dX11_lay_18 : decode cX11_lay 18 = .ok (.invokevirtual 275, 3) := eX11_lay_16.2.2.1
theorem dX11_lay_21 : decode cX11_lay 21 = .ok (.ifCond .eq 12, 3) := eX11_lay_16.2.2.2.1
theorem dX11_lay_24 : decode cX11_lay 24 = .ok (.aload_n 0, 1) := eX11_lay_16.2.2.2.2.1
theorem dX11_lay_25 : decode cX11_lay 25 = .ok (.iload 4, 2) := eX11_lay_16.2.2.2.2.2.1
theorem dX11_lay_27 : decode cX11_lay 27 = .ok (.invokevirtual 275, 3) := eX11_lay_16.2.2.2.2.2.2.1
theorem dX11_lay_30 : decode cX11_lay 30 = .ok (.ifCond .ne 9, 3) := eX11_lay_16.2.2.2.2.2.2.2.1
theorem eX11_lay_33 : decode cX11_lay 33 = .ok (.aload_n 0, 1) ∧ decode cX11_lay 34 = .ok (.iconst 2, 1) ∧ decode cX11_lay 35 = .ok (.invokevirtual 109, 3) ∧ decode cX11_lay 38 = .ok (.ireturn, 1) ∧ decode cX11_lay 39 = .ok (.iload_n 1, 1) ∧ decode cX11_lay 40 = .ok (.iconst (-1), 1) ∧ decode cX11_lay 41 = .ok (.if_icmp .eq 24, 3) ∧ decode cX11_lay 44 = .ok (.iload_n 2, 1) ∧ True := dkl_ok (c := cX11_lay) [(.aload_n 0, 1), (.iconst 2, 1), (.invokevirtual 109, 3), (.ireturn, 1), (.iload_n 1, 1), (.iconst (-1), 1), (.if_icmp .eq 24, 3), (.iload_n 2, 1)] 33 (by decide +kernel)
theorem dX11_lay_33 : decode cX11_lay 33 = .ok (.aload_n 0, 1) := eX11_lay_33.1
theorem dX11_lay_34 : decode cX11_lay 34 = .ok (.iconst 2, 1) := eX11_lay_33.2.1
theorem dX11_lay_35 : decode cX11_lay 35 = .ok (.invokevirtual 109, 3) := eX11_lay_33.2.2.1
theorem dX11_lay_38 : decode cX11_lay 38 = .ok (.ireturn, 1) := eX11_lay_33.2.2.2.1
theorem dX11_lay_39 : decode cX11_lay 39 = .ok (.iload_n 1, 1) := eX11_lay_33.2.2.2.2.1
theorem dX11_lay_40 : decode cX11_lay 40 = .ok (.iconst (-1), 1) := eX11_lay_33.2.2.2.2.2.1
theorem dX11_lay_41 : decode cX11_lay 41 = .ok (.if_icmp .eq 24, 3) := eX11_lay_33.2.2.2.2.2.2.1
theorem dX11_lay_44 : decode cX11_lay 44 = .ok (.iload_n 2, 1) := eX11_lay_33.2.2.2.2.2.2.2.1
theorem eX11_lay_45 : decode cX11_lay 45 = .ok (.iconst (-1), 1) ∧ decode cX11_lay 46 = .ok (.if_icmp .ne 8, 3) ∧ decode cX11_lay 49 = .ok (.iload_n 3, 1) ∧ decode cX11_lay 50 = .ok (.iconst (-1), 1) ∧ decode cX11_lay 51 = .ok (.if_icmp .ne 14, 3) ∧ decode cX11_lay 54 = .ok (.iload_n 3, 1) ∧ decode cX11_lay 55 = .ok (.iconst (-1), 1) ∧ decode cX11_lay 56 = .ok (.if_icmp .ne 15, 3) ∧ True := dkl_ok (c := cX11_lay) [(.iconst (-1), 1), (.if_icmp .ne 8, 3), (.iload_n 3, 1), (.iconst (-1), 1), (.if_icmp .ne 14, 3), (.iload_n 3, 1), (.iconst (-1), 1), (.if_icmp .ne 15, 3)] 45 (by decide +kernel)
theorem dX11_lay_45 : decode cX11_lay 45 = .ok (.iconst (-1), 1) := eX11_lay_45.1
theorem dX11_lay_46 : decode cX11_lay 46 = .ok (.if_icmp .ne 8, 3) := eX11_lay_45.2.1
theorem dX11_lay_49 : decode cX11_lay 49 = .ok (.iload_n 3, 1) := eX11_lay_45.2.2.1
theorem dX11_lay_50 : decode cX11_lay 50 = .ok (.iconst (-1), 1) := eX11_lay_45.2.2.2.1
theorem dX11_lay_51 : decode cX11_lay 51 = .ok (.if_icmp .ne 14, 3) := eX11_lay_45.2.2.2.2.1
theorem dX11_lay_54 : decode cX11_lay 54 = .ok (.iload_n 3, 1) := eX11_lay_45.2.2.2.2.2.1
theorem dX11_lay_55 : decode cX11_lay 55 = .ok (.iconst (-1), 1) := eX11_lay_45.2.2.2.2.2.2.1
theorem dX11_lay_56 : decode cX11_lay 56 = .ok (.if_icmp .ne 15, 3) := eX11_lay_45.2.2.2.2.2.2.2.1
theorem eX11_lay_59 : decode cX11_lay 59 = .ok (.iload 4, 2) ∧ decode cX11_lay 61 = .ok (.iconst (-1), 1) ∧ decode cX11_lay 62 = .ok (.if_icmp .eq 9, 3) ∧ decode cX11_lay 65 = .ok (.aload_n 0, 1) ∧ decode cX11_lay 66 = .ok (.iconst 5, 1) ∧ decode cX11_lay 67 = .ok (.invokevirtual 109, 3) ∧ decode cX11_lay 70 = .ok (.ireturn, 1) ∧ decode cX11_lay 71 = .ok (.aload_n 0, 1) ∧ True := dkl_ok (c := cX11_lay) [(.iload 4, 2), (.iconst (-1), 1), (.if_icmp .eq 9, 3), (.aload_n 0, 1), (.iconst 5, 1), (.invokevirtual 109, 3), (.ireturn, 1), (.aload_n 0, 1)] 59 (by decide +kernel)
theorem dX11_lay_59 : decode cX11_lay 59 = .ok (.iload 4, 2) := eX11_lay_59.1
theorem dX11_lay_61 : decode cX11_lay 61 = .ok (.iconst (-1), 1) := eX11_lay_59.2.1
theorem dX11_lay_62 : decode cX11_lay 62 = .ok (.if_icmp .eq 9, 3) := eX11_lay_59.2.2.1
theorem dX11_lay_65 : decode cX11_lay 65 = .ok (.aload_n 0, 1) := eX11_lay_59.2.2.2.1
theorem dX11_lay_66 : decode cX11_lay 66 = .ok (.iconst 5, 1) := eX11_lay_59.2.2.2.2.1
theorem dX11_lay_67 : decode cX11_lay 67 = .ok (.invokevirtual 109, 3) := eX11_lay_59.2.2.2.2.2.1
theorem dX11_lay_70 : decode cX11_lay 70 = .ok (.ireturn, 1) := eX11_lay_59.2.2.2.2.2.2.1
theorem dX11_lay_71 : decode cX11_lay 71 = .ok (.aload_n 0, 1) := eX11_lay_59.2.2.2.2.2.2.2.1
theorem eX11_lay_72 : decode cX11_lay 72 = .ok (.getfield 42, 3) ∧ decode cX11_lay 75 = .ok (.invokevirtual 278, 3) ∧ decode cX11_lay 78 = .ok (.aload_n 0, 1) ∧ decode cX11_lay 79 = .ok (.getfield 42, 3) ∧ decode cX11_lay 82 = .ok (.iload_n 1, 1) ∧ decode cX11_lay 83 = .ok (.iconst 1, 1) ∧ decode cX11_lay 84 = .ok (.invokevirtual 281, 3) ∧ decode cX11_lay 87 = .ok (.aload_n 0, 1) ∧ True := dkl_ok (c := cX11_lay) [(.getfield 42, 3), (.invokevirtual 278, 3), (.aload_n 0, 1), (.getfield 42, 3), (.iload_n 1, 1), (.iconst 1, 1), (.invokevirtual 281, 3), (.aload_n 0, 1)] 72 (by decide +kernel)
theorem dX11_lay_72 : decode cX11_lay 72 = .ok (.getfield 42, 3) := eX11_lay_72.1
theorem dX11_lay_75 : decode cX11_lay 75 = .ok (.invokevirtual 278, 3) := eX11_lay_72.2.1
theorem dX11_lay_78 : decode cX11_lay 78 = .ok (.aload_n 0, 1) := eX11_lay_72.2.2.1
theorem dX11_lay_79 : decode cX11_lay 79 = .ok (.getfield 42, 3) := eX11_lay_72.2.2.2.1
theorem dX11_lay_82 : decode cX11_lay 82 = .ok (.iload_n 1, 1) := eX11_lay_72.2.2.2.2.1
theorem dX11_lay_83 : decode cX11_lay 83 = .ok (.iconst 1, 1) := eX11_lay_72.2.2.2.2.2.1
theorem dX11_lay_84 : decode cX11_lay 84 = .ok (.invokevirtual 281, 3) := eX11_lay_72.2.2.2.2.2.2.1
theorem dX11_lay_87 : decode cX11_lay 87 = .ok (.aload_n 0, 1) := eX11_lay_72.2.2.2.2.2.2.2.1
theorem eX11_lay_88 : decode cX11_lay 88 = .ok (.getfield 42, 3) ∧ decode cX11_lay 91 = .ok (.iload_n 2, 1) ∧ decode cX11_lay 92 = .ok (.iconst 1, 1) ∧ decode cX11_lay 93 = .ok (.invokevirtual 281, 3) ∧ decode cX11_lay 96 = .ok (.aload_n 0, 1) ∧ decode cX11_lay 97 = .ok (.getfield 42, 3) ∧ decode cX11_lay 100 = .ok (.iload_n 3, 1) ∧ decode cX11_lay 101 = .ok (.iconst 1, 1) ∧ True := dkl_ok (c := cX11_lay) [(.getfield 42, 3), (.iload_n 2, 1), (.iconst 1, 1), (.invokevirtual 281, 3), (.aload_n 0, 1), (.getfield 42, 3), (.iload_n 3, 1), (.iconst 1, 1)] 88 (by decide +kernel)
theorem dX11_lay_88 : decode cX11_lay 88 = .ok (.getfield 42, 3) := eX11_lay_88.1
theorem dX11_lay_91 : decode cX11_lay 91 = .ok (.iload_n 2, 1) := eX11_lay_88.2.1
theorem dX11_lay_92 : decode cX11_lay 92 = .ok (.iconst 1, 1) := eX11_lay_88.2.2.1
theorem dX11_lay_93 : decode cX11_lay 93 = .ok (.invokevirtual 281, 3) := eX11_lay_88.2.2.2.1
theorem dX11_lay_96 : decode cX11_lay 96 = .ok (.aload_n 0, 1) := eX11_lay_88.2.2.2.2.1
theorem dX11_lay_97 : decode cX11_lay 97 = .ok (.getfield 42, 3) := eX11_lay_88.2.2.2.2.2.1
theorem dX11_lay_100 : decode cX11_lay 100 = .ok (.iload_n 3, 1) := eX11_lay_88.2.2.2.2.2.2.1
theorem dX11_lay_101 : decode cX11_lay 101 = .ok (.iconst 1, 1) := eX11_lay_88.2.2.2.2.2.2.2.1
theorem eX11_lay_102 : decode cX11_lay 102 = .ok (.invokevirtual 281, 3) ∧ decode cX11_lay 105 = .ok (.aload_n 0, 1) ∧ decode cX11_lay 106 = .ok (.getfield 42, 3) ∧ decode cX11_lay 109 = .ok (.iload 4, 2) ∧ decode cX11_lay 111 = .ok (.iconst 1, 1) ∧ decode cX11_lay 112 = .ok (.invokevirtual 281, 3) ∧ decode cX11_lay 115 = .ok (.aload_n 0, 1) ∧ decode cX11_lay 116 = .ok (.getfield 42, 3) ∧ True := dkl_ok (c := cX11_lay) [(.invokevirtual 281, 3), (.aload_n 0, 1), (.getfield 42, 3), (.iload 4, 2), (.iconst 1, 1), (.invokevirtual 281, 3), (.aload_n 0, 1), (.getfield 42, 3)] 102 (by decide +kernel)
theorem dX11_lay_102 : decode cX11_lay 102 = .ok (.invokevirtual 281, 3) := eX11_lay_102.1
theorem dX11_lay_105 : decode cX11_lay 105 = .ok (.aload_n 0, 1) := eX11_lay_102.2.1
theorem dX11_lay_106 : decode cX11_lay 106 = .ok (.getfield 42, 3) := eX11_lay_102.2.2.1
theorem dX11_lay_109 : decode cX11_lay 109 = .ok (.iload 4, 2) := eX11_lay_102.2.2.2.1
theorem dX11_lay_111 : decode cX11_lay 111 = .ok (.iconst 1, 1) := eX11_lay_102.2.2.2.2.1
theorem dX11_lay_112 : decode cX11_lay 112 = .ok (.invokevirtual 281, 3) := eX11_lay_102.2.2.2.2.2.1
theorem dX11_lay_115 : decode cX11_lay 115 = .ok (.aload_n 0, 1) := eX11_lay_102.2.2.2.2.2.2.1
theorem dX11_lay_116 : decode cX11_lay 116 = .ok (.getfield 42, 3) := eX11_lay_102.2.2.2.2.2.2.2.1
theorem eX11_lay_119 : decode cX11_lay 119 = .ok (.getfield 284, 3) ∧ decode cX11_lay 122 = .ok (.aload_n 0, 1) ∧ decode cX11_lay 123 = .ok (.getfield 42, 3) ∧ decode cX11_lay 126 = .ok (.getfield 147, 3) ∧ decode cX11_lay 129 = .ok (.getfield 192, 3) ∧ decode cX11_lay 132 = .ok (.if_icmp .le 10, 3) ∧ decode cX11_lay 135 = .ok (.aload_n 0, 1) ∧ decode cX11_lay 136 = .ok (.bipush 7, 2) ∧ True := dkl_ok (c := cX11_lay) [(.getfield 284, 3), (.aload_n 0, 1), (.getfield 42, 3), (.getfield 147, 3), (.getfield 192, 3), (.if_icmp .le 10, 3), (.aload_n 0, 1), (.bipush 7, 2)] 119 (by decide +kernel)
theorem dX11_lay_119 : decode cX11_lay 119 = .ok (.getfield 284, 3) := eX11_lay_119.1
theorem dX11_lay_122 : decode cX11_lay 122 = .ok (.aload_n 0, 1) := eX11_lay_119.2.1
theorem dX11_lay_123 : decode cX11_lay 123 = .ok (.getfield 42, 3) := eX11_lay_119.2.2.1
theorem dX11_lay_126 : decode cX11_lay 126 = .ok (.getfield 147, 3) := eX11_lay_119.2.2.2.1
theorem dX11_lay_129 : decode cX11_lay 129 = .ok (.getfield 192, 3) := eX11_lay_119.2.2.2.2.1
theorem dX11_lay_132 : decode cX11_lay 132 = .ok (.if_icmp .le 10, 3) := eX11_lay_119.2.2.2.2.2.1
theorem dX11_lay_135 : decode cX11_lay 135 = .ok (.aload_n 0, 1) := eX11_lay_119.2.2.2.2.2.2.1
theorem dX11_lay_136 : decode cX11_lay 136 = .ok (.bipush 7, 2) := eX11_lay_119.2.2.2.2.2.2.2.1
theorem eX11_lay_138 : decode cX11_lay 138 = .ok (.invokevirtual 109, 3) ∧ decode cX11_lay 141 = .ok (.ireturn, 1) ∧ decode cX11_lay 142 = .ok (.aload_n 0, 1) ∧ decode cX11_lay 143 = .ok (.getfield 42, 3) ∧ decode cX11_lay 146 = .ok (.getfield 210, 3) ∧ decode cX11_lay 149 = .ok (.ifCond .ne 37, 3) ∧ decode cX11_lay 152 = .ok (.aload_n 0, 1) ∧ decode cX11_lay 153 = .ok (.getfield 42, 3) ∧ True := dkl_ok (c := cX11_lay) [(.invokevirtual 109, 3), (.ireturn, 1), (.aload_n 0, 1), (.getfield 42, 3), (.getfield 210, 3), (.ifCond .ne 37, 3), (.aload_n 0, 1), (.getfield 42, 3)] 138 (by decide +kernel)
theorem dX11_lay_138 : decode cX11_lay 138 = .ok (.invokevirtual 109, 3) := eX11_lay_138.1
theorem dX11_lay_141 : decode cX11_lay 141 = .ok (.ireturn, 1) := eX11_lay_138.2.1
theorem dX11_lay_142 : decode cX11_lay 142 = .ok (.aload_n 0, 1) := eX11_lay_138.2.2.1
theorem dX11_lay_143 : decode cX11_lay 143 = .ok (.getfield 42, 3) := eX11_lay_138.2.2.2.1
theorem dX11_lay_146 : decode cX11_lay 146 = .ok (.getfield 210, 3) := eX11_lay_138.2.2.2.2.1
theorem dX11_lay_149 : decode cX11_lay 149 = .ok (.ifCond .ne 37, 3) := eX11_lay_138.2.2.2.2.2.1
theorem dX11_lay_152 : decode cX11_lay 152 = .ok (.aload_n 0, 1) := eX11_lay_138.2.2.2.2.2.2.1
theorem dX11_lay_153 : decode cX11_lay 153 = .ok (.getfield 42, 3) := eX11_lay_138.2.2.2.2.2.2.2.1
theorem eX11_lay_156 : decode cX11_lay 156 = .ok (.getfield 213, 3) ∧ decode cX11_lay 159 = .ok (.iconst (-1), 1) ∧ decode cX11_lay 160 = .ok (.if_icmp .ne 26, 3) ∧ decode cX11_lay 163 = .ok (.aload_n 0, 1) ∧ decode cX11_lay 164 = .ok (.getfield 42, 3) ∧ decode cX11_lay 167 = .ok (.getfield 147, 3) ∧ decode cX11_lay 170 = .ok (.getfield 151, 3) ∧ decode cX11_lay 173 = .ok (.ifCond .eq 13, 3) ∧ True := dkl_ok (c := cX11_lay) [(.getfield 213, 3), (.iconst (-1), 1), (.if_icmp .ne 26, 3), (.aload_n 0, 1), (.getfield 42, 3), (.getfield 147, 3), (.getfield 151, 3), (.ifCond .eq 13, 3)] 156 (by decide +kernel)
theorem dX11_lay_156 : decode cX11_lay 156 = .ok (.getfield 213, 3) := eX11_lay_156.1
theorem dX11_lay_159 : decode cX11_lay 159 = .ok (.iconst (-1), 1) := eX11_lay_156.2.1
theorem dX11_lay_160 : decode cX11_lay 160 = .ok (.if_icmp .ne 26, 3) := eX11_lay_156.2.2.1
theorem dX11_lay_163 : decode cX11_lay 163 = .ok (.aload_n 0, 1) := eX11_lay_156.2.2.2.1
theorem dX11_lay_164 : decode cX11_lay 164 = .ok (.getfield 42, 3) := eX11_lay_156.2.2.2.2.1
theorem dX11_lay_167 : decode cX11_lay 167 = .ok (.getfield 147, 3) := eX11_lay_156.2.2.2.2.2.1
theorem dX11_lay_170 : decode cX11_lay 170 = .ok (.getfield 151, 3) := eX11_lay_156.2.2.2.2.2.2.1
theorem dX11_lay_173 : decode cX11_lay 173 = .ok (.ifCond .eq 13, 3) := eX11_lay_156.2.2.2.2.2.2.2.1
theorem eX11_lay_176 : decode cX11_lay 176 = .ok (.aload_n 0, 1) ∧ decode cX11_lay 177 = .ok (.getfield 42, 3) ∧ decode cX11_lay 180 = .ok (.invokevirtual 287, 3) ∧ decode cX11_lay 183 = .ok (.ifCond .ne 10, 3) ∧ decode cX11_lay 186 = .ok (.aload_n 0, 1) ∧ decode cX11_lay 187 = .ok (.bipush 9, 2) ∧ decode cX11_lay 189 = .ok (.invokevirtual 109, 3) ∧ decode cX11_lay 192 = .ok (.ireturn, 1) ∧ True := dkl_ok (c := cX11_lay) [(.aload_n 0, 1), (.getfield 42, 3), (.invokevirtual 287, 3), (.ifCond .ne 10, 3), (.aload_n 0, 1), (.bipush 9, 2), (.invokevirtual 109, 3), (.ireturn, 1)] 176 (by decide +kernel)
theorem dX11_lay_176 : decode cX11_lay 176 = .ok (.aload_n 0, 1) := eX11_lay_176.1
theorem dX11_lay_177 : decode cX11_lay 177 = .ok (.getfield 42, 3) := eX11_lay_176.2.1
theorem dX11_lay_180 : decode cX11_lay 180 = .ok (.invokevirtual 287, 3) := eX11_lay_176.2.2.1
theorem dX11_lay_183 : decode cX11_lay 183 = .ok (.ifCond .ne 10, 3) := eX11_lay_176.2.2.2.1
theorem dX11_lay_186 : decode cX11_lay 186 = .ok (.aload_n 0, 1) := eX11_lay_176.2.2.2.2.1
theorem dX11_lay_187 : decode cX11_lay 187 = .ok (.bipush 9, 2) := eX11_lay_176.2.2.2.2.2.1
theorem dX11_lay_189 : decode cX11_lay 189 = .ok (.invokevirtual 109, 3) := eX11_lay_176.2.2.2.2.2.2.1
theorem dX11_lay_192 : decode cX11_lay 192 = .ok (.ireturn, 1) := eX11_lay_176.2.2.2.2.2.2.2.1
theorem eX11_lay_193 : decode cX11_lay 193 = .ok (.aload_n 0, 1) ∧ decode cX11_lay 194 = .ok (.getfield 42, 3) ∧ decode cX11_lay 197 = .ok (.invokevirtual 290, 3) ∧ decode cX11_lay 200 = .ok (.aload_n 0, 1) ∧ decode cX11_lay 201 = .ok (.aload_n 0, 1) ∧ decode cX11_lay 202 = .ok (.getfield 42, 3) ∧ decode cX11_lay 205 = .ok (.getfield 201, 3) ∧ decode cX11_lay 208 = .ok (.getfield 205, 3) ∧ True := dkl_ok (c := cX11_lay) [(.aload_n 0, 1), (.getfield 42, 3), (.invokevirtual 290, 3), (.aload_n 0, 1), (.aload_n 0, 1), (.getfield 42, 3), (.getfield 201, 3), (.getfield 205, 3)] 193 (by decide +kernel)
theorem dX11_lay_193 : decode cX11_lay 193 = .ok (.aload_n 0, 1) := eX11_lay_193.1
theorem dX11_lay_194 : decode cX11_lay 194 = .ok (.getfield 42, 3) := eX11_lay_193.2.1
theorem dX11_lay_197 : decode cX11_lay 197 = .ok (.invokevirtual 290, 3) := eX11_lay_193.2.2.1
theorem dX11_lay_200 : decode cX11_lay 200 = .ok (.aload_n 0, 1) := eX11_lay_193.2.2.2.1
theorem dX11_lay_201 : decode cX11_lay 201 = .ok (.aload_n 0, 1) := eX11_lay_193.2.2.2.2.1
theorem dX11_lay_202 : decode cX11_lay 202 = .ok (.getfield 42, 3) := eX11_lay_193.2.2.2.2.2.1
theorem dX11_lay_205 : decode cX11_lay 205 = .ok (.getfield 201, 3) := eX11_lay_193.2.2.2.2.2.2.1
theorem dX11_lay_208 : decode cX11_lay 208 = .ok (.getfield 205, 3) := eX11_lay_193.2.2.2.2.2.2.2.1
theorem eX11_lay_211 : decode cX11_lay 211 = .ok (.invokevirtual 156, 3) ∧ decode cX11_lay 214 = .ok (.ireturn, 1) ∧ True := dkl_ok (c := cX11_lay) [(.invokevirtual 156, 3), (.ireturn, 1)] 211 (by decide +kernel)
theorem dX11_lay_211 : decode cX11_lay 211 = .ok (.invokevirtual 156, 3) := eX11_lay_211.1
theorem dX11_lay_214 : decode cX11_lay 214 = .ok (.ireturn, 1) := eX11_lay_211.2.1
theorem eX11_leave_0 : decode cX11_leave 0 = .ok (.aload_n 0, 1) ∧ decode cX11_leave 1 = .ok (.getfield 42, 3) ∧ decode cX11_leave 4 = .ok (.getfield 210, 3) ∧ decode cX11_leave 7 = .ok (.ifCond .ne 10, 3) ∧ decode cX11_leave 10 = .ok (.aload_n 0, 1) ∧ decode cX11_leave 11 = .ok (.bipush 8, 2) ∧ decode cX11_leave 13 = .ok (.invokevirtual 109, 3) ∧ decode cX11_leave 16 = .ok (.ireturn, 1) ∧ True := dkl_ok (c := cX11_leave) [(.aload_n 0, 1), (.getfield 42, 3), (.getfield 210, 3), (.ifCond .ne 10, 3), (.aload_n 0, 1), (.bipush 8, 2), (.invokevirtual 109, 3), (.ireturn, 1)] 0 (by decide +kernel)
theorem dX11_leave_0 : decode cX11_leave 0 = .ok (.aload_n 0, 1) := eX11_leave_0.1
theorem dX11_leave_1 : decode cX11_leave 1 = .ok (.getfield 42, 3) := eX11_leave_0.2.1
theorem dX11_leave_4 : decode cX11_leave 4 = .ok (.getfield 210, 3) := eX11_leave_0.2.2.1
theorem dX11_leave_7 : decode cX11_leave 7 = .ok (.ifCond .ne 10, 3) := eX11_leave_0.2.2.2.1
theorem dX11_leave_10 : decode cX11_leave 10 = .ok (.aload_n 0, 1) := eX11_leave_0.2.2.2.2.1
theorem dX11_leave_11 : decode cX11_leave 11 = .ok (.bipush 8, 2) := eX11_leave_0.2.2.2.2.2.1
theorem dX11_leave_13 : decode cX11_leave 13 = .ok (.invokevirtual 109, 3) := eX11_leave_0.2.2.2.2.2.2.1
theorem dX11_leave_16 : decode cX11_leave 16 = .ok (.ireturn, 1) := eX11_leave_0.2.2.2.2.2.2.2.1
theorem eX11_leave_17 : decode cX11_leave 17 = .ok (.aload_n 0, 1) ∧ decode cX11_leave 18 = .ok (.getfield 42, 3) ∧ decode cX11_leave 21 = .ok (.invokevirtual 293, 3) ∧ decode cX11_leave 24 = .ok (.aload_n 0, 1) ∧ decode cX11_leave 25 = .ok (.aload_n 0, 1) ∧ decode cX11_leave 26 = .ok (.getfield 42, 3) ∧ decode cX11_leave 29 = .ok (.getfield 198, 3) ∧ decode cX11_leave 32 = .ok (.invokevirtual 156, 3) ∧ True := dkl_ok (c := cX11_leave) [(.aload_n 0, 1), (.getfield 42, 3), (.invokevirtual 293, 3), (.aload_n 0, 1), (.aload_n 0, 1), (.getfield 42, 3), (.getfield 198, 3), (.invokevirtual 156, 3)] 17 (by decide +kernel)
theorem dX11_leave_17 : decode cX11_leave 17 = .ok (.aload_n 0, 1) := eX11_leave_17.1
theorem dX11_leave_18 : decode cX11_leave 18 = .ok (.getfield 42, 3) := eX11_leave_17.2.1
theorem dX11_leave_21 : decode cX11_leave 21 = .ok (.invokevirtual 293, 3) := eX11_leave_17.2.2.1
theorem dX11_leave_24 : decode cX11_leave 24 = .ok (.aload_n 0, 1) := eX11_leave_17.2.2.2.1
theorem dX11_leave_25 : decode cX11_leave 25 = .ok (.aload_n 0, 1) := eX11_leave_17.2.2.2.2.1
theorem dX11_leave_26 : decode cX11_leave 26 = .ok (.getfield 42, 3) := eX11_leave_17.2.2.2.2.2.1
theorem dX11_leave_29 : decode cX11_leave 29 = .ok (.getfield 198, 3) := eX11_leave_17.2.2.2.2.2.2.1
theorem dX11_leave_32 : decode cX11_leave 32 = .ok (.invokevirtual 156, 3) := eX11_leave_17.2.2.2.2.2.2.2.1
theorem eX11_leave_35 : decode cX11_leave 35 = .ok (.ireturn, 1) ∧ True := dkl_ok (c := cX11_leave) [(.ireturn, 1)] 35 (by decide +kernel)
theorem dX11_leave_35 : decode cX11_leave 35 = .ok (.ireturn, 1) := eX11_leave_35.1
theorem eX11_doubt_0 : decode cX11_doubt 0 = .ok (.aload_n 0, 1) ∧ decode cX11_doubt 1 = .ok (.iload_n 1, 1) ∧ decode cX11_doubt 2 = .ok (.invokevirtual 296, 3) ∧ decode cX11_doubt 5 = .ok (.istore_n 2, 1) ∧ decode cX11_doubt 6 = .ok (.iload_n 2, 1) ∧ decode cX11_doubt 7 = .ok (.ifCond .ne 18, 3) ∧ decode cX11_doubt 10 = .ok (.aload_n 0, 1) ∧ decode cX11_doubt 11 = .ok (.aload_n 0, 1) ∧ True := dkl_ok (c := cX11_doubt) [(.aload_n 0, 1), (.iload_n 1, 1), (.invokevirtual 296, 3), (.istore_n 2, 1), (.iload_n 2, 1), (.ifCond .ne 18, 3), (.aload_n 0, 1), (.aload_n 0, 1)] 0 (by decide +kernel)
theorem dX11_doubt_0 : decode cX11_doubt 0 = .ok (.aload_n 0, 1) := eX11_doubt_0.1
theorem dX11_doubt_1 : decode cX11_doubt 1 = .ok (.iload_n 1, 1) := eX11_doubt_0.2.1
theorem dX11_doubt_2 : decode cX11_doubt 2 = .ok (.invokevirtual 296, 3) := eX11_doubt_0.2.2.1
theorem dX11_doubt_5 : decode cX11_doubt 5 = .ok (.istore_n 2, 1) := eX11_doubt_0.2.2.2.1
theorem dX11_doubt_6 : decode cX11_doubt 6 = .ok (.iload_n 2, 1) := eX11_doubt_0.2.2.2.2.1
theorem dX11_doubt_7 : decode cX11_doubt 7 = .ok (.ifCond .ne 18, 3) := eX11_doubt_0.2.2.2.2.2.1
theorem dX11_doubt_10 : decode cX11_doubt 10 = .ok (.aload_n 0, 1) := eX11_doubt_0.2.2.2.2.2.2.1
theorem dX11_doubt_11 : decode cX11_doubt 11 = .ok (.aload_n 0, 1) := eX11_doubt_0.2.2.2.2.2.2.2.1
theorem eX11_doubt_12 : decode cX11_doubt 12 = .ok (.getfield 42, 3) ∧ decode cX11_doubt 15 = .ok (.iload_n 1, 1) ∧ decode cX11_doubt 16 = .ok (.invokevirtual 299, 3) ∧ decode cX11_doubt 19 = .ok (.invokevirtual 156, 3) ∧ decode cX11_doubt 22 = .ok (.goto 8, 3) ∧ decode cX11_doubt 25 = .ok (.aload_n 0, 1) ∧ decode cX11_doubt 26 = .ok (.iload_n 2, 1) ∧ decode cX11_doubt 27 = .ok (.invokevirtual 109, 3) ∧ True := dkl_ok (c := cX11_doubt) [(.getfield 42, 3), (.iload_n 1, 1), (.invokevirtual 299, 3), (.invokevirtual 156, 3), (.goto 8, 3), (.aload_n 0, 1), (.iload_n 2, 1), (.invokevirtual 109, 3)] 12 (by decide +kernel)
theorem dX11_doubt_12 : decode cX11_doubt 12 = .ok (.getfield 42, 3) := eX11_doubt_12.1
theorem dX11_doubt_15 : decode cX11_doubt 15 = .ok (.iload_n 1, 1) := eX11_doubt_12.2.1
theorem dX11_doubt_16 : decode cX11_doubt 16 = .ok (.invokevirtual 299, 3) := eX11_doubt_12.2.2.1
theorem dX11_doubt_19 : decode cX11_doubt 19 = .ok (.invokevirtual 156, 3) := eX11_doubt_12.2.2.2.1
theorem dX11_doubt_22 : decode cX11_doubt 22 = .ok (.goto 8, 3) := eX11_doubt_12.2.2.2.2.1
theorem dX11_doubt_25 : decode cX11_doubt 25 = .ok (.aload_n 0, 1) := eX11_doubt_12.2.2.2.2.2.1
theorem dX11_doubt_26 : decode cX11_doubt 26 = .ok (.iload_n 2, 1) := eX11_doubt_12.2.2.2.2.2.2.1
theorem dX11_doubt_27 : decode cX11_doubt 27 = .ok (.invokevirtual 109, 3) := eX11_doubt_12.2.2.2.2.2.2.2.1
theorem eX11_doubt_30 : decode cX11_doubt 30 = .ok (.ireturn, 1) ∧ True := dkl_ok (c := cX11_doubt) [(.ireturn, 1)] 30 (by decide +kernel)
theorem dX11_doubt_30 : decode cX11_doubt 30 = .ok (.ireturn, 1) := eX11_doubt_30.1
theorem eX11_bend_0 : decode cX11_bend 0 = .ok (.aload_n 0, 1) ∧ decode cX11_bend 1 = .ok (.iload_n 1, 1) ∧ decode cX11_bend 2 = .ok (.invokevirtual 219, 3) ∧ decode cX11_bend 5 = .ok (.ifCond .ne 9, 3) ∧ decode cX11_bend 8 = .ok (.aload_n 0, 1) ∧ decode cX11_bend 9 = .ok (.iconst 2, 1) ∧ decode cX11_bend 10 = .ok (.invokevirtual 89, 3) ∧ decode cX11_bend 13 = .ok (.ireturn, 1) ∧ True := dkl_ok (c := cX11_bend) [(.aload_n 0, 1), (.iload_n 1, 1), (.invokevirtual 219, 3), (.ifCond .ne 9, 3), (.aload_n 0, 1), (.iconst 2, 1), (.invokevirtual 89, 3), (.ireturn, 1)] 0 (by decide +kernel)
theorem dX11_bend_0 : decode cX11_bend 0 = .ok (.aload_n 0, 1) := eX11_bend_0.1
theorem dX11_bend_1 : decode cX11_bend 1 = .ok (.iload_n 1, 1) := eX11_bend_0.2.1
theorem dX11_bend_2 : decode cX11_bend 2 = .ok (.invokevirtual 219, 3) := eX11_bend_0.2.2.1
theorem dX11_bend_5 : decode cX11_bend 5 = .ok (.ifCond .ne 9, 3) := eX11_bend_0.2.2.2.1
theorem dX11_bend_8 : decode cX11_bend 8 = .ok (.aload_n 0, 1) := eX11_bend_0.2.2.2.2.1
theorem dX11_bend_9 : decode cX11_bend 9 = .ok (.iconst 2, 1) := eX11_bend_0.2.2.2.2.2.1
theorem dX11_bend_10 : decode cX11_bend 10 = .ok (.invokevirtual 89, 3) := eX11_bend_0.2.2.2.2.2.2.1
theorem dX11_bend_13 : decode cX11_bend 13 = .ok (.ireturn, 1) := eX11_bend_0.2.2.2.2.2.2.2.1
theorem eX11_bend_14 : decode cX11_bend 14 = .ok (.iload_n 2, 1) ∧ decode cX11_bend 15 = .ok (.invokestatic 302, 3) ∧ decode cX11_bend 18 = .ok (.ifCond .eq 10, 3) ∧ decode cX11_bend 21 = .ok (.iload_n 3, 1) ∧ decode cX11_bend 22 = .ok (.invokestatic 302, 3) ∧ decode cX11_bend 25 = .ok (.ifCond .ne 9, 3) ∧ decode cX11_bend 28 = .ok (.aload_n 0, 1) ∧ decode cX11_bend 29 = .ok (.iconst 5, 1) ∧ True := dkl_ok (c := cX11_bend) [(.iload_n 2, 1), (.invokestatic 302, 3), (.ifCond .eq 10, 3), (.iload_n 3, 1), (.invokestatic 302, 3), (.ifCond .ne 9, 3), (.aload_n 0, 1), (.iconst 5, 1)] 14 (by decide +kernel)
theorem dX11_bend_14 : decode cX11_bend 14 = .ok (.iload_n 2, 1) := eX11_bend_14.1
theorem dX11_bend_15 : decode cX11_bend 15 = .ok (.invokestatic 302, 3) := eX11_bend_14.2.1
theorem dX11_bend_18 : decode cX11_bend 18 = .ok (.ifCond .eq 10, 3) := eX11_bend_14.2.2.1
theorem dX11_bend_21 : decode cX11_bend 21 = .ok (.iload_n 3, 1) := eX11_bend_14.2.2.2.1
theorem dX11_bend_22 : decode cX11_bend 22 = .ok (.invokestatic 302, 3) := eX11_bend_14.2.2.2.2.1
theorem dX11_bend_25 : decode cX11_bend 25 = .ok (.ifCond .ne 9, 3) := eX11_bend_14.2.2.2.2.2.1
theorem dX11_bend_28 : decode cX11_bend 28 = .ok (.aload_n 0, 1) := eX11_bend_14.2.2.2.2.2.2.1
theorem dX11_bend_29 : decode cX11_bend 29 = .ok (.iconst 5, 1) := eX11_bend_14.2.2.2.2.2.2.2.1
theorem eX11_bend_30 : decode cX11_bend 30 = .ok (.invokevirtual 89, 3) ∧ decode cX11_bend 33 = .ok (.ireturn, 1) ∧ decode cX11_bend 34 = .ok (.aload_n 0, 1) ∧ decode cX11_bend 35 = .ok (.getfield 42, 3) ∧ decode cX11_bend 38 = .ok (.getfield 222, 3) ∧ decode cX11_bend 41 = .ok (.getfield 226, 3) ∧ decode cX11_bend 44 = .ok (.iload_n 1, 1) ∧ decode cX11_bend 45 = .ok (.iload_n 2, 1) ∧ True := dkl_ok (c := cX11_bend) [(.invokevirtual 89, 3), (.ireturn, 1), (.aload_n 0, 1), (.getfield 42, 3), (.getfield 222, 3), (.getfield 226, 3), (.iload_n 1, 1), (.iload_n 2, 1)] 30 (by decide +kernel)
theorem dX11_bend_30 : decode cX11_bend 30 = .ok (.invokevirtual 89, 3) := eX11_bend_30.1
theorem dX11_bend_33 : decode cX11_bend 33 = .ok (.ireturn, 1) := eX11_bend_30.2.1
theorem dX11_bend_34 : decode cX11_bend 34 = .ok (.aload_n 0, 1) := eX11_bend_30.2.2.1
theorem dX11_bend_35 : decode cX11_bend 35 = .ok (.getfield 42, 3) := eX11_bend_30.2.2.2.1
theorem dX11_bend_38 : decode cX11_bend 38 = .ok (.getfield 222, 3) := eX11_bend_30.2.2.2.2.1
theorem dX11_bend_41 : decode cX11_bend 41 = .ok (.getfield 226, 3) := eX11_bend_30.2.2.2.2.2.1
theorem dX11_bend_44 : decode cX11_bend 44 = .ok (.iload_n 1, 1) := eX11_bend_30.2.2.2.2.2.2.1
theorem dX11_bend_45 : decode cX11_bend 45 = .ok (.iload_n 2, 1) := eX11_bend_30.2.2.2.2.2.2.2.1
theorem eX11_bend_46 : decode cX11_bend 46 = .ok (.invokevirtual 305, 3) ∧ decode cX11_bend 49 = .ok (.aload_n 0, 1) ∧ decode cX11_bend 50 = .ok (.getfield 42, 3) ∧ decode cX11_bend 53 = .ok (.getfield 222, 3) ∧ decode cX11_bend 56 = .ok (.getfield 236, 3) ∧ decode cX11_bend 59 = .ok (.iload_n 1, 1) ∧ decode cX11_bend 60 = .ok (.iload_n 3, 1) ∧ decode cX11_bend 61 = .ok (.invokevirtual 305, 3) ∧ True := dkl_ok (c := cX11_bend) [(.invokevirtual 305, 3), (.aload_n 0, 1), (.getfield 42, 3), (.getfield 222, 3), (.getfield 236, 3), (.iload_n 1, 1), (.iload_n 3, 1), (.invokevirtual 305, 3)] 46 (by decide +kernel)
theorem dX11_bend_46 : decode cX11_bend 46 = .ok (.invokevirtual 305, 3) := eX11_bend_46.1
theorem dX11_bend_49 : decode cX11_bend 49 = .ok (.aload_n 0, 1) := eX11_bend_46.2.1
theorem dX11_bend_50 : decode cX11_bend 50 = .ok (.getfield 42, 3) := eX11_bend_46.2.2.1
theorem dX11_bend_53 : decode cX11_bend 53 = .ok (.getfield 222, 3) := eX11_bend_46.2.2.2.1
theorem dX11_bend_56 : decode cX11_bend 56 = .ok (.getfield 236, 3) := eX11_bend_46.2.2.2.2.1
theorem dX11_bend_59 : decode cX11_bend 59 = .ok (.iload_n 1, 1) := eX11_bend_46.2.2.2.2.2.1
theorem dX11_bend_60 : decode cX11_bend 60 = .ok (.iload_n 3, 1) := eX11_bend_46.2.2.2.2.2.2.1
theorem dX11_bend_61 : decode cX11_bend 61 = .ok (.invokevirtual 305, 3) := eX11_bend_46.2.2.2.2.2.2.2.1
theorem eX11_bend_64 : decode cX11_bend 64 = .ok (.aload_n 0, 1) ∧ decode cX11_bend 65 = .ok (.invokevirtual 97, 3) ∧ decode cX11_bend 68 = .ok (.ireturn, 1) ∧ True := dkl_ok (c := cX11_bend) [(.aload_n 0, 1), (.invokevirtual 97, 3), (.ireturn, 1)] 64 (by decide +kernel)
theorem dX11_bend_64 : decode cX11_bend 64 = .ok (.aload_n 0, 1) := eX11_bend_64.1
theorem dX11_bend_65 : decode cX11_bend 65 = .ok (.invokevirtual 97, 3) := eX11_bend_64.2.1
theorem dX11_bend_68 : decode cX11_bend 68 = .ok (.ireturn, 1) := eX11_bend_64.2.2.1
theorem eX11_isSixteenths_0 : decode cX11_isSixteenths 0 = .ok (.iload_n 0, 1) ∧ decode cX11_isSixteenths 1 = .ok (.ifCond .lt 13, 3) ∧ decode cX11_isSixteenths 4 = .ok (.iload_n 0, 1) ∧ decode cX11_isSixteenths 5 = .ok (.bipush 16, 2) ∧ decode cX11_isSixteenths 7 = .ok (.if_icmp .gt 7, 3) ∧ decode cX11_isSixteenths 10 = .ok (.iconst 1, 1) ∧ decode cX11_isSixteenths 11 = .ok (.goto 4, 3) ∧ decode cX11_isSixteenths 14 = .ok (.iconst 0, 1) ∧ True := dkl_ok (c := cX11_isSixteenths) [(.iload_n 0, 1), (.ifCond .lt 13, 3), (.iload_n 0, 1), (.bipush 16, 2), (.if_icmp .gt 7, 3), (.iconst 1, 1), (.goto 4, 3), (.iconst 0, 1)] 0 (by decide +kernel)
theorem dX11_isSixteenths_0 : decode cX11_isSixteenths 0 = .ok (.iload_n 0, 1) := eX11_isSixteenths_0.1
theorem dX11_isSixteenths_1 : decode cX11_isSixteenths 1 = .ok (.ifCond .lt 13, 3) := eX11_isSixteenths_0.2.1
theorem dX11_isSixteenths_4 : decode cX11_isSixteenths 4 = .ok (.iload_n 0, 1) := eX11_isSixteenths_0.2.2.1
theorem dX11_isSixteenths_5 : decode cX11_isSixteenths 5 = .ok (.bipush 16, 2) := eX11_isSixteenths_0.2.2.2.1
theorem dX11_isSixteenths_7 : decode cX11_isSixteenths 7 = .ok (.if_icmp .gt 7, 3) := eX11_isSixteenths_0.2.2.2.2.1
theorem dX11_isSixteenths_10 : decode cX11_isSixteenths 10 = .ok (.iconst 1, 1) := eX11_isSixteenths_0.2.2.2.2.2.1
theorem dX11_isSixteenths_11 : decode cX11_isSixteenths 11 = .ok (.goto 4, 3) := eX11_isSixteenths_0.2.2.2.2.2.2.1
theorem dX11_isSixteenths_14 : decode cX11_isSixteenths 14 = .ok (.iconst 0, 1) := eX11_isSixteenths_0.2.2.2.2.2.2.2.1
theorem eX11_isSixteenths_15 : decode cX11_isSixteenths 15 = .ok (.ireturn, 1) ∧ True := dkl_ok (c := cX11_isSixteenths) [(.ireturn, 1)] 15 (by decide +kernel)
theorem dX11_isSixteenths_15 : decode cX11_isSixteenths 15 = .ok (.ireturn, 1) := eX11_isSixteenths_15.1
theorem eX11_known_0 : decode cX11_known 0 = .ok (.aload_n 0, 1) ∧ decode cX11_known 1 = .ok (.iload_n 1, 1) ∧ decode cX11_known 2 = .ok (.invokevirtual 219, 3) ∧ decode cX11_known 5 = .ok (.ifCond .eq 11, 3) ∧ decode cX11_known 8 = .ok (.aload_n 0, 1) ∧ decode cX11_known 9 = .ok (.iload_n 2, 1) ∧ decode cX11_known 10 = .ok (.invokevirtual 250, 3) ∧ decode cX11_known 13 = .ok (.ifCond .ne 9, 3) ∧ True := dkl_ok (c := cX11_known) [(.aload_n 0, 1), (.iload_n 1, 1), (.invokevirtual 219, 3), (.ifCond .eq 11, 3), (.aload_n 0, 1), (.iload_n 2, 1), (.invokevirtual 250, 3), (.ifCond .ne 9, 3)] 0 (by decide +kernel)
theorem dX11_known_0 : decode cX11_known 0 = .ok (.aload_n 0, 1) := eX11_known_0.1
theorem dX11_known_1 : decode cX11_known 1 = .ok (.iload_n 1, 1) := eX11_known_0.2.1
theorem dX11_known_2 : decode cX11_known 2 = .ok (.invokevirtual 219, 3) := eX11_known_0.2.2.1
theorem dX11_known_5 : decode cX11_known 5 = .ok (.ifCond .eq 11, 3) := eX11_known_0.2.2.2.1
theorem dX11_known_8 : decode cX11_known 8 = .ok (.aload_n 0, 1) := eX11_known_0.2.2.2.2.1
theorem dX11_known_9 : decode cX11_known 9 = .ok (.iload_n 2, 1) := eX11_known_0.2.2.2.2.2.1
theorem dX11_known_10 : decode cX11_known 10 = .ok (.invokevirtual 250, 3) := eX11_known_0.2.2.2.2.2.2.1
theorem dX11_known_13 : decode cX11_known 13 = .ok (.ifCond .ne 9, 3) := eX11_known_0.2.2.2.2.2.2.2.1
theorem eX11_known_16 : decode cX11_known 16 = .ok (.aload_n 0, 1) ∧ decode cX11_known 17 = .ok (.iconst 2, 1) ∧ decode cX11_known 18 = .ok (.invokevirtual 109, 3) ∧ decode cX11_known 21 = .ok (.ireturn, 1) ∧ decode cX11_known 22 = .ok (.aload_n 0, 1) ∧ decode cX11_known 23 = .ok (.aload_n 0, 1) ∧ decode cX11_known 24 = .ok (.getfield 42, 3) ∧ decode cX11_known 27 = .ok (.getfield 222, 3) ∧ True := dkl_ok (c := cX11_known) [(.aload_n 0, 1), (.iconst 2, 1), (.invokevirtual 109, 3), (.ireturn, 1), (.aload_n 0, 1), (.aload_n 0, 1), (.getfield 42, 3), (.getfield 222, 3)] 16 (by decide +kernel)
theorem dX11_known_16 : decode cX11_known 16 = .ok (.aload_n 0, 1) := eX11_known_16.1
theorem dX11_known_17 : decode cX11_known 17 = .ok (.iconst 2, 1) := eX11_known_16.2.1
theorem dX11_known_18 : decode cX11_known 18 = .ok (.invokevirtual 109, 3) := eX11_known_16.2.2.1
theorem dX11_known_21 : decode cX11_known 21 = .ok (.ireturn, 1) := eX11_known_16.2.2.2.1
theorem dX11_known_22 : decode cX11_known 22 = .ok (.aload_n 0, 1) := eX11_known_16.2.2.2.2.1
theorem dX11_known_23 : decode cX11_known 23 = .ok (.aload_n 0, 1) := eX11_known_16.2.2.2.2.2.1
theorem dX11_known_24 : decode cX11_known 24 = .ok (.getfield 42, 3) := eX11_known_16.2.2.2.2.2.2.1
theorem dX11_known_27 : decode cX11_known 27 = .ok (.getfield 222, 3) := eX11_known_16.2.2.2.2.2.2.2.1
theorem eX11_known_30 : decode cX11_known 30 = .ok (.iload_n 1, 1) ∧ decode cX11_known 31 = .ok (.iload_n 2, 1) ∧ decode cX11_known 32 = .ok (.invokevirtual 308, 3) ∧ decode cX11_known 35 = .ok (.invokevirtual 156, 3) ∧ decode cX11_known 38 = .ok (.ireturn, 1) ∧ True := dkl_ok (c := cX11_known) [(.iload_n 1, 1), (.iload_n 2, 1), (.invokevirtual 308, 3), (.invokevirtual 156, 3), (.ireturn, 1)] 30 (by decide +kernel)
theorem dX11_known_30 : decode cX11_known 30 = .ok (.iload_n 1, 1) := eX11_known_30.1
theorem dX11_known_31 : decode cX11_known 31 = .ok (.iload_n 2, 1) := eX11_known_30.2.1
theorem dX11_known_32 : decode cX11_known 32 = .ok (.invokevirtual 308, 3) := eX11_known_30.2.2.1
theorem dX11_known_35 : decode cX11_known 35 = .ok (.invokevirtual 156, 3) := eX11_known_30.2.2.2.1
theorem dX11_known_38 : decode cX11_known 38 = .ok (.ireturn, 1) := eX11_known_30.2.2.2.2.1
theorem eX11_unknown_0 : decode cX11_unknown 0 = .ok (.aload_n 0, 1) ∧ decode cX11_unknown 1 = .ok (.iload_n 1, 1) ∧ decode cX11_unknown 2 = .ok (.invokevirtual 219, 3) ∧ decode cX11_unknown 5 = .ok (.ifCond .eq 11, 3) ∧ decode cX11_unknown 8 = .ok (.aload_n 0, 1) ∧ decode cX11_unknown 9 = .ok (.iload_n 2, 1) ∧ decode cX11_unknown 10 = .ok (.invokevirtual 275, 3) ∧ decode cX11_unknown 13 = .ok (.ifCond .ne 9, 3) ∧ True := dkl_ok (c := cX11_unknown) [(.aload_n 0, 1), (.iload_n 1, 1), (.invokevirtual 219, 3), (.ifCond .eq 11, 3), (.aload_n 0, 1), (.iload_n 2, 1), (.invokevirtual 275, 3), (.ifCond .ne 9, 3)] 0 (by decide +kernel)
theorem dX11_unknown_0 : decode cX11_unknown 0 = .ok (.aload_n 0, 1) := eX11_unknown_0.1
theorem dX11_unknown_1 : decode cX11_unknown 1 = .ok (.iload_n 1, 1) := eX11_unknown_0.2.1
theorem dX11_unknown_2 : decode cX11_unknown 2 = .ok (.invokevirtual 219, 3) := eX11_unknown_0.2.2.1
theorem dX11_unknown_5 : decode cX11_unknown 5 = .ok (.ifCond .eq 11, 3) := eX11_unknown_0.2.2.2.1
theorem dX11_unknown_8 : decode cX11_unknown 8 = .ok (.aload_n 0, 1) := eX11_unknown_0.2.2.2.2.1
theorem dX11_unknown_9 : decode cX11_unknown 9 = .ok (.iload_n 2, 1) := eX11_unknown_0.2.2.2.2.2.1
theorem dX11_unknown_10 : decode cX11_unknown 10 = .ok (.invokevirtual 275, 3) := eX11_unknown_0.2.2.2.2.2.2.1
theorem dX11_unknown_13 : decode cX11_unknown 13 = .ok (.ifCond .ne 9, 3) := eX11_unknown_0.2.2.2.2.2.2.2.1
theorem eX11_unknown_16 : decode cX11_unknown 16 = .ok (.aload_n 0, 1) ∧ decode cX11_unknown 17 = .ok (.iconst 2, 1) ∧ decode cX11_unknown 18 = .ok (.invokevirtual 109, 3) ∧ decode cX11_unknown 21 = .ok (.ireturn, 1) ∧ decode cX11_unknown 22 = .ok (.aload_n 0, 1) ∧ decode cX11_unknown 23 = .ok (.iload_n 2, 1) ∧ decode cX11_unknown 24 = .ok (.iconst (-1), 1) ∧ decode cX11_unknown 25 = .ok (.if_icmp .ne 14, 3) ∧ True := dkl_ok (c := cX11_unknown) [(.aload_n 0, 1), (.iconst 2, 1), (.invokevirtual 109, 3), (.ireturn, 1), (.aload_n 0, 1), (.iload_n 2, 1), (.iconst (-1), 1), (.if_icmp .ne 14, 3)] 16 (by decide +kernel)
theorem dX11_unknown_16 : decode cX11_unknown 16 = .ok (.aload_n 0, 1) := eX11_unknown_16.1
theorem dX11_unknown_17 : decode cX11_unknown 17 = .ok (.iconst 2, 1) := eX11_unknown_16.2.1
theorem dX11_unknown_18 : decode cX11_unknown 18 = .ok (.invokevirtual 109, 3) := eX11_unknown_16.2.2.1
theorem dX11_unknown_21 : decode cX11_unknown 21 = .ok (.ireturn, 1) := eX11_unknown_16.2.2.2.1
theorem dX11_unknown_22 : decode cX11_unknown 22 = .ok (.aload_n 0, 1) := eX11_unknown_16.2.2.2.2.1
theorem dX11_unknown_23 : decode cX11_unknown 23 = .ok (.iload_n 2, 1) := eX11_unknown_16.2.2.2.2.2.1
theorem dX11_unknown_24 : decode cX11_unknown 24 = .ok (.iconst (-1), 1) := eX11_unknown_16.2.2.2.2.2.2.1
theorem dX11_unknown_25 : decode cX11_unknown 25 = .ok (.if_icmp .ne 14, 3) := eX11_unknown_16.2.2.2.2.2.2.2.1
theorem eX11_unknown_28 : decode cX11_unknown 28 = .ok (.aload_n 0, 1) ∧ decode cX11_unknown 29 = .ok (.getfield 42, 3) ∧ decode cX11_unknown 32 = .ok (.iload_n 1, 1) ∧ decode cX11_unknown 33 = .ok (.invokevirtual 311, 3) ∧ decode cX11_unknown 36 = .ok (.goto 12, 3) ∧ decode cX11_unknown 39 = .ok (.aload_n 0, 1) ∧ decode cX11_unknown 40 = .ok (.getfield 42, 3) ∧ decode cX11_unknown 43 = .ok (.iload_n 1, 1) ∧ True := dkl_ok (c := cX11_unknown) [(.aload_n 0, 1), (.getfield 42, 3), (.iload_n 1, 1), (.invokevirtual 311, 3), (.goto 12, 3), (.aload_n 0, 1), (.getfield 42, 3), (.iload_n 1, 1)] 28 (by decide +kernel)
theorem dX11_unknown_28 : decode cX11_unknown 28 = .ok (.aload_n 0, 1) := eX11_unknown_28.1
theorem dX11_unknown_29 : decode cX11_unknown 29 = .ok (.getfield 42, 3) := eX11_unknown_28.2.1
theorem dX11_unknown_32 : decode cX11_unknown 32 = .ok (.iload_n 1, 1) := eX11_unknown_28.2.2.1
theorem dX11_unknown_33 : decode cX11_unknown 33 = .ok (.invokevirtual 311, 3) := eX11_unknown_28.2.2.2.1
theorem dX11_unknown_36 : decode cX11_unknown 36 = .ok (.goto 12, 3) := eX11_unknown_28.2.2.2.2.1
theorem dX11_unknown_39 : decode cX11_unknown 39 = .ok (.aload_n 0, 1) := eX11_unknown_28.2.2.2.2.2.1
theorem dX11_unknown_40 : decode cX11_unknown 40 = .ok (.getfield 42, 3) := eX11_unknown_28.2.2.2.2.2.2.1
theorem dX11_unknown_43 : decode cX11_unknown 43 = .ok (.iload_n 1, 1) := eX11_unknown_28.2.2.2.2.2.2.2.1
theorem eX11_unknown_44 : decode cX11_unknown 44 = .ok (.iload_n 2, 1) ∧ decode cX11_unknown 45 = .ok (.invokevirtual 314, 3) ∧ decode cX11_unknown 48 = .ok (.invokevirtual 156, 3) ∧ decode cX11_unknown 51 = .ok (.ireturn, 1) ∧ True := dkl_ok (c := cX11_unknown) [(.iload_n 2, 1), (.invokevirtual 314, 3), (.invokevirtual 156, 3), (.ireturn, 1)] 44 (by decide +kernel)
theorem dX11_unknown_44 : decode cX11_unknown 44 = .ok (.iload_n 2, 1) := eX11_unknown_44.1
theorem dX11_unknown_45 : decode cX11_unknown 45 = .ok (.invokevirtual 314, 3) := eX11_unknown_44.2.1
theorem dX11_unknown_48 : decode cX11_unknown 48 = .ok (.invokevirtual 156, 3) := eX11_unknown_44.2.2.1
theorem dX11_unknown_51 : decode cX11_unknown 51 = .ok (.ireturn, 1) := eX11_unknown_44.2.2.2.1
theorem eX11_impossible_0 : decode cX11_impossible 0 = .ok (.aload_n 0, 1) ∧ decode cX11_impossible 1 = .ok (.iload_n 1, 1) ∧ decode cX11_impossible 2 = .ok (.invokevirtual 296, 3) ∧ decode cX11_impossible 5 = .ok (.istore_n 2, 1) ∧ decode cX11_impossible 6 = .ok (.iload_n 2, 1) ∧ decode cX11_impossible 7 = .ok (.ifCond .eq 9, 3) ∧ decode cX11_impossible 10 = .ok (.aload_n 0, 1) ∧ decode cX11_impossible 11 = .ok (.iload_n 2, 1) ∧ True := dkl_ok (c := cX11_impossible) [(.aload_n 0, 1), (.iload_n 1, 1), (.invokevirtual 296, 3), (.istore_n 2, 1), (.iload_n 2, 1), (.ifCond .eq 9, 3), (.aload_n 0, 1), (.iload_n 2, 1)] 0 (by decide +kernel)
theorem dX11_impossible_0 : decode cX11_impossible 0 = .ok (.aload_n 0, 1) := eX11_impossible_0.1
theorem dX11_impossible_1 : decode cX11_impossible 1 = .ok (.iload_n 1, 1) := eX11_impossible_0.2.1
theorem dX11_impossible_2 : decode cX11_impossible 2 = .ok (.invokevirtual 296, 3) := eX11_impossible_0.2.2.1
theorem dX11_impossible_5 : decode cX11_impossible 5 = .ok (.istore_n 2, 1) := eX11_impossible_0.2.2.2.1
theorem dX11_impossible_6 : decode cX11_impossible 6 = .ok (.iload_n 2, 1) := eX11_impossible_0.2.2.2.2.1
theorem dX11_impossible_7 : decode cX11_impossible 7 = .ok (.ifCond .eq 9, 3) := eX11_impossible_0.2.2.2.2.2.1
theorem dX11_impossible_10 : decode cX11_impossible 10 = .ok (.aload_n 0, 1) := eX11_impossible_0.2.2.2.2.2.2.1
theorem dX11_impossible_11 : decode cX11_impossible 11 = .ok (.iload_n 2, 1) := eX11_impossible_0.2.2.2.2.2.2.2.1
theorem eX11_impossible_12 : decode cX11_impossible 12 = .ok (.invokevirtual 109, 3) ∧ decode cX11_impossible 15 = .ok (.ireturn, 1) ∧ decode cX11_impossible 16 = .ok (.aload_n 0, 1) ∧ decode cX11_impossible 17 = .ok (.aload_n 0, 1) ∧ decode cX11_impossible 18 = .ok (.getfield 42, 3) ∧ decode cX11_impossible 21 = .ok (.iload_n 1, 1) ∧ decode cX11_impossible 22 = .ok (.invokevirtual 317, 3) ∧ decode cX11_impossible 25 = .ok (.ifCond .eq 7, 3) ∧ True := dkl_ok (c := cX11_impossible) [(.invokevirtual 109, 3), (.ireturn, 1), (.aload_n 0, 1), (.aload_n 0, 1), (.getfield 42, 3), (.iload_n 1, 1), (.invokevirtual 317, 3), (.ifCond .eq 7, 3)] 12 (by decide +kernel)
theorem dX11_impossible_12 : decode cX11_impossible 12 = .ok (.invokevirtual 109, 3) := eX11_impossible_12.1
theorem dX11_impossible_15 : decode cX11_impossible 15 = .ok (.ireturn, 1) := eX11_impossible_12.2.1
theorem dX11_impossible_16 : decode cX11_impossible 16 = .ok (.aload_n 0, 1) := eX11_impossible_12.2.2.1
theorem dX11_impossible_17 : decode cX11_impossible 17 = .ok (.aload_n 0, 1) := eX11_impossible_12.2.2.2.1
theorem dX11_impossible_18 : decode cX11_impossible 18 = .ok (.getfield 42, 3) := eX11_impossible_12.2.2.2.2.1
theorem dX11_impossible_21 : decode cX11_impossible 21 = .ok (.iload_n 1, 1) := eX11_impossible_12.2.2.2.2.2.1
theorem dX11_impossible_22 : decode cX11_impossible 22 = .ok (.invokevirtual 317, 3) := eX11_impossible_12.2.2.2.2.2.2.1
theorem dX11_impossible_25 : decode cX11_impossible 25 = .ok (.ifCond .eq 7, 3) := eX11_impossible_12.2.2.2.2.2.2.2.1
theorem eX11_impossible_28 : decode cX11_impossible 28 = .ok (.iconst 1, 1) ∧ decode cX11_impossible 29 = .ok (.goto 4, 3) ∧ decode cX11_impossible 32 = .ok (.iconst 0, 1) ∧ decode cX11_impossible 33 = .ok (.invokevirtual 156, 3) ∧ decode cX11_impossible 36 = .ok (.ireturn, 1) ∧ True := dkl_ok (c := cX11_impossible) [(.iconst 1, 1), (.goto 4, 3), (.iconst 0, 1), (.invokevirtual 156, 3), (.ireturn, 1)] 28 (by decide +kernel)
theorem dX11_impossible_28 : decode cX11_impossible 28 = .ok (.iconst 1, 1) := eX11_impossible_28.1
theorem dX11_impossible_29 : decode cX11_impossible 29 = .ok (.goto 4, 3) := eX11_impossible_28.2.1
theorem dX11_impossible_32 : decode cX11_impossible 32 = .ok (.iconst 0, 1) := eX11_impossible_28.2.2.1
theorem dX11_impossible_33 : decode cX11_impossible 33 = .ok (.invokevirtual 156, 3) := eX11_impossible_28.2.2.2.1
theorem dX11_impossible_36 : decode cX11_impossible 36 = .ok (.ireturn, 1) := eX11_impossible_28.2.2.2.2.1
theorem eX11_blind_0 : decode cX11_blind 0 = .ok (.aload_n 0, 1) ∧ decode cX11_blind 1 = .ok (.iload_n 1, 1) ∧ decode cX11_blind 2 = .ok (.invokevirtual 296, 3) ∧ decode cX11_blind 5 = .ok (.istore_n 2, 1) ∧ decode cX11_blind 6 = .ok (.iload_n 2, 1) ∧ decode cX11_blind 7 = .ok (.ifCond .eq 9, 3) ∧ decode cX11_blind 10 = .ok (.aload_n 0, 1) ∧ decode cX11_blind 11 = .ok (.iload_n 2, 1) ∧ True := dkl_ok (c := cX11_blind) [(.aload_n 0, 1), (.iload_n 1, 1), (.invokevirtual 296, 3), (.istore_n 2, 1), (.iload_n 2, 1), (.ifCond .eq 9, 3), (.aload_n 0, 1), (.iload_n 2, 1)] 0 (by decide +kernel)
theorem dX11_blind_0 : decode cX11_blind 0 = .ok (.aload_n 0, 1) := eX11_blind_0.1
theorem dX11_blind_1 : decode cX11_blind 1 = .ok (.iload_n 1, 1) := eX11_blind_0.2.1
theorem dX11_blind_2 : decode cX11_blind 2 = .ok (.invokevirtual 296, 3) := eX11_blind_0.2.2.1
theorem dX11_blind_5 : decode cX11_blind 5 = .ok (.istore_n 2, 1) := eX11_blind_0.2.2.2.1
theorem dX11_blind_6 : decode cX11_blind 6 = .ok (.iload_n 2, 1) := eX11_blind_0.2.2.2.2.1
theorem dX11_blind_7 : decode cX11_blind 7 = .ok (.ifCond .eq 9, 3) := eX11_blind_0.2.2.2.2.2.1
theorem dX11_blind_10 : decode cX11_blind 10 = .ok (.aload_n 0, 1) := eX11_blind_0.2.2.2.2.2.2.1
theorem dX11_blind_11 : decode cX11_blind 11 = .ok (.iload_n 2, 1) := eX11_blind_0.2.2.2.2.2.2.2.1
theorem eX11_blind_12 : decode cX11_blind 12 = .ok (.invokevirtual 89, 3) ∧ decode cX11_blind 15 = .ok (.ireturn, 1) ∧ decode cX11_blind 16 = .ok (.aload_n 0, 1) ∧ decode cX11_blind 17 = .ok (.aload_n 0, 1) ∧ decode cX11_blind 18 = .ok (.getfield 42, 3) ∧ decode cX11_blind 21 = .ok (.iload_n 1, 1) ∧ decode cX11_blind 22 = .ok (.invokevirtual 320, 3) ∧ decode cX11_blind 25 = .ok (.aload_n 0, 1) ∧ True := dkl_ok (c := cX11_blind) [(.invokevirtual 89, 3), (.ireturn, 1), (.aload_n 0, 1), (.aload_n 0, 1), (.getfield 42, 3), (.iload_n 1, 1), (.invokevirtual 320, 3), (.aload_n 0, 1)] 12 (by decide +kernel)
theorem dX11_blind_12 : decode cX11_blind 12 = .ok (.invokevirtual 89, 3) := eX11_blind_12.1
theorem dX11_blind_15 : decode cX11_blind 15 = .ok (.ireturn, 1) := eX11_blind_12.2.1
theorem dX11_blind_16 : decode cX11_blind 16 = .ok (.aload_n 0, 1) := eX11_blind_12.2.2.1
theorem dX11_blind_17 : decode cX11_blind 17 = .ok (.aload_n 0, 1) := eX11_blind_12.2.2.2.1
theorem dX11_blind_18 : decode cX11_blind 18 = .ok (.getfield 42, 3) := eX11_blind_12.2.2.2.2.1
theorem dX11_blind_21 : decode cX11_blind 21 = .ok (.iload_n 1, 1) := eX11_blind_12.2.2.2.2.2.1
theorem dX11_blind_22 : decode cX11_blind 22 = .ok (.invokevirtual 320, 3) := eX11_blind_12.2.2.2.2.2.2.1
theorem dX11_blind_25 : decode cX11_blind 25 = .ok (.aload_n 0, 1) := eX11_blind_12.2.2.2.2.2.2.2.1
theorem eX11_blind_26 : decode cX11_blind 26 = .ok (.getfield 42, 3) ∧ decode cX11_blind 29 = .ok (.iload_n 1, 1) ∧ decode cX11_blind 30 = .ok (.invokevirtual 323, 3) ∧ decode cX11_blind 33 = .ok (.invokevirtual 326, 3) ∧ decode cX11_blind 36 = .ok (.ireturn, 1) ∧ True := dkl_ok (c := cX11_blind) [(.getfield 42, 3), (.iload_n 1, 1), (.invokevirtual 323, 3), (.invokevirtual 326, 3), (.ireturn, 1)] 26 (by decide +kernel)
theorem dX11_blind_26 : decode cX11_blind 26 = .ok (.getfield 42, 3) := eX11_blind_26.1
theorem dX11_blind_29 : decode cX11_blind 29 = .ok (.iload_n 1, 1) := eX11_blind_26.2.1
theorem dX11_blind_30 : decode cX11_blind 30 = .ok (.invokevirtual 323, 3) := eX11_blind_26.2.2.1
theorem dX11_blind_33 : decode cX11_blind 33 = .ok (.invokevirtual 326, 3) := eX11_blind_26.2.2.2.1
theorem dX11_blind_36 : decode cX11_blind 36 = .ok (.ireturn, 1) := eX11_blind_26.2.2.2.2.1
theorem eX11_honest_0 : decode cX11_honest 0 = .ok (.aload_n 0, 1) ∧ decode cX11_honest 1 = .ok (.iload_n 1, 1) ∧ decode cX11_honest 2 = .ok (.invokevirtual 219, 3) ∧ decode cX11_honest 5 = .ok (.ifCond .ne 9, 3) ∧ decode cX11_honest 8 = .ok (.aload_n 0, 1) ∧ decode cX11_honest 9 = .ok (.iconst 2, 1) ∧ decode cX11_honest 10 = .ok (.invokevirtual 89, 3) ∧ decode cX11_honest 13 = .ok (.ireturn, 1) ∧ True := dkl_ok (c := cX11_honest) [(.aload_n 0, 1), (.iload_n 1, 1), (.invokevirtual 219, 3), (.ifCond .ne 9, 3), (.aload_n 0, 1), (.iconst 2, 1), (.invokevirtual 89, 3), (.ireturn, 1)] 0 (by decide +kernel)
theorem dX11_honest_0 : decode cX11_honest 0 = .ok (.aload_n 0, 1) := eX11_honest_0.1
theorem dX11_honest_1 : decode cX11_honest 1 = .ok (.iload_n 1, 1) := eX11_honest_0.2.1
theorem dX11_honest_2 : decode cX11_honest 2 = .ok (.invokevirtual 219, 3) := eX11_honest_0.2.2.1
theorem dX11_honest_5 : decode cX11_honest 5 = .ok (.ifCond .ne 9, 3) := eX11_honest_0.2.2.2.1
theorem dX11_honest_8 : decode cX11_honest 8 = .ok (.aload_n 0, 1) := eX11_honest_0.2.2.2.2.1
theorem dX11_honest_9 : decode cX11_honest 9 = .ok (.iconst 2, 1) := eX11_honest_0.2.2.2.2.2.1
theorem dX11_honest_10 : decode cX11_honest 10 = .ok (.invokevirtual 89, 3) := eX11_honest_0.2.2.2.2.2.2.1
theorem dX11_honest_13 : decode cX11_honest 13 = .ok (.ireturn, 1) := eX11_honest_0.2.2.2.2.2.2.2.1
theorem eX11_honest_14 : decode cX11_honest 14 = .ok (.aload_n 0, 1) ∧ decode cX11_honest 15 = .ok (.aload_n 0, 1) ∧ decode cX11_honest 16 = .ok (.getfield 42, 3) ∧ decode cX11_honest 19 = .ok (.getfield 222, 3) ∧ decode cX11_honest 22 = .ok (.iload_n 1, 1) ∧ decode cX11_honest 23 = .ok (.invokevirtual 330, 3) ∧ decode cX11_honest 26 = .ok (.aload_n 0, 1) ∧ decode cX11_honest 27 = .ok (.getfield 42, 3) ∧ True := dkl_ok (c := cX11_honest) [(.aload_n 0, 1), (.aload_n 0, 1), (.getfield 42, 3), (.getfield 222, 3), (.iload_n 1, 1), (.invokevirtual 330, 3), (.aload_n 0, 1), (.getfield 42, 3)] 14 (by decide +kernel)
theorem dX11_honest_14 : decode cX11_honest 14 = .ok (.aload_n 0, 1) := eX11_honest_14.1
theorem dX11_honest_15 : decode cX11_honest 15 = .ok (.aload_n 0, 1) := eX11_honest_14.2.1
theorem dX11_honest_16 : decode cX11_honest 16 = .ok (.getfield 42, 3) := eX11_honest_14.2.2.1
theorem dX11_honest_19 : decode cX11_honest 19 = .ok (.getfield 222, 3) := eX11_honest_14.2.2.2.1
theorem dX11_honest_22 : decode cX11_honest 22 = .ok (.iload_n 1, 1) := eX11_honest_14.2.2.2.2.1
theorem dX11_honest_23 : decode cX11_honest 23 = .ok (.invokevirtual 330, 3) := eX11_honest_14.2.2.2.2.2.1
theorem dX11_honest_26 : decode cX11_honest 26 = .ok (.aload_n 0, 1) := eX11_honest_14.2.2.2.2.2.2.1
theorem dX11_honest_27 : decode cX11_honest 27 = .ok (.getfield 42, 3) := eX11_honest_14.2.2.2.2.2.2.2.1
theorem eX11_honest_30 : decode cX11_honest 30 = .ok (.getfield 222, 3) ∧ decode cX11_honest 33 = .ok (.iload_n 1, 1) ∧ decode cX11_honest 34 = .ok (.invokevirtual 333, 3) ∧ decode cX11_honest 37 = .ok (.invokevirtual 326, 3) ∧ decode cX11_honest 40 = .ok (.ireturn, 1) ∧ True := dkl_ok (c := cX11_honest) [(.getfield 222, 3), (.iload_n 1, 1), (.invokevirtual 333, 3), (.invokevirtual 326, 3), (.ireturn, 1)] 30 (by decide +kernel)
theorem dX11_honest_30 : decode cX11_honest 30 = .ok (.getfield 222, 3) := eX11_honest_30.1
theorem dX11_honest_33 : decode cX11_honest 33 = .ok (.iload_n 1, 1) := eX11_honest_30.2.1
theorem dX11_honest_34 : decode cX11_honest 34 = .ok (.invokevirtual 333, 3) := eX11_honest_30.2.2.1
theorem dX11_honest_37 : decode cX11_honest 37 = .ok (.invokevirtual 326, 3) := eX11_honest_30.2.2.2.1
theorem dX11_honest_40 : decode cX11_honest 40 = .ok (.ireturn, 1) := eX11_honest_30.2.2.2.2.1
theorem eX11_belief_0 : decode cX11_belief 0 = .ok (.aload_n 0, 1) ∧ decode cX11_belief 1 = .ok (.iload_n 1, 1) ∧ decode cX11_belief 2 = .ok (.invokevirtual 296, 3) ∧ decode cX11_belief 5 = .ok (.istore_n 2, 1) ∧ decode cX11_belief 6 = .ok (.iload_n 2, 1) ∧ decode cX11_belief 7 = .ok (.ifCond .eq 9, 3) ∧ decode cX11_belief 10 = .ok (.aload_n 0, 1) ∧ decode cX11_belief 11 = .ok (.iload_n 2, 1) ∧ True := dkl_ok (c := cX11_belief) [(.aload_n 0, 1), (.iload_n 1, 1), (.invokevirtual 296, 3), (.istore_n 2, 1), (.iload_n 2, 1), (.ifCond .eq 9, 3), (.aload_n 0, 1), (.iload_n 2, 1)] 0 (by decide +kernel)
theorem dX11_belief_0 : decode cX11_belief 0 = .ok (.aload_n 0, 1) := eX11_belief_0.1
theorem dX11_belief_1 : decode cX11_belief 1 = .ok (.iload_n 1, 1) := eX11_belief_0.2.1
theorem dX11_belief_2 : decode cX11_belief 2 = .ok (.invokevirtual 296, 3) := eX11_belief_0.2.2.1
theorem dX11_belief_5 : decode cX11_belief 5 = .ok (.istore_n 2, 1) := eX11_belief_0.2.2.2.1
theorem dX11_belief_6 : decode cX11_belief 6 = .ok (.iload_n 2, 1) := eX11_belief_0.2.2.2.2.1
theorem dX11_belief_7 : decode cX11_belief 7 = .ok (.ifCond .eq 9, 3) := eX11_belief_0.2.2.2.2.2.1
theorem dX11_belief_10 : decode cX11_belief 10 = .ok (.aload_n 0, 1) := eX11_belief_0.2.2.2.2.2.2.1
theorem dX11_belief_11 : decode cX11_belief 11 = .ok (.iload_n 2, 1) := eX11_belief_0.2.2.2.2.2.2.2.1
theorem eX11_belief_12 : decode cX11_belief 12 = .ok (.invokevirtual 89, 3) ∧ decode cX11_belief 15 = .ok (.ireturn, 1) ∧ decode cX11_belief 16 = .ok (.aload_n 0, 1) ∧ decode cX11_belief 17 = .ok (.getfield 42, 3) ∧ decode cX11_belief 20 = .ok (.iload_n 1, 1) ∧ decode cX11_belief 21 = .ok (.invokevirtual 320, 3) ∧ decode cX11_belief 24 = .ok (.lstore_n 3, 1) ∧ decode cX11_belief 25 = .ok (.aload_n 0, 1) ∧ True := dkl_ok (c := cX11_belief) [(.invokevirtual 89, 3), (.ireturn, 1), (.aload_n 0, 1), (.getfield 42, 3), (.iload_n 1, 1), (.invokevirtual 320, 3), (.lstore_n 3, 1), (.aload_n 0, 1)] 12 (by decide +kernel)
theorem dX11_belief_12 : decode cX11_belief 12 = .ok (.invokevirtual 89, 3) := eX11_belief_12.1
theorem dX11_belief_15 : decode cX11_belief 15 = .ok (.ireturn, 1) := eX11_belief_12.2.1
theorem dX11_belief_16 : decode cX11_belief 16 = .ok (.aload_n 0, 1) := eX11_belief_12.2.2.1
theorem dX11_belief_17 : decode cX11_belief 17 = .ok (.getfield 42, 3) := eX11_belief_12.2.2.2.1
theorem dX11_belief_20 : decode cX11_belief 20 = .ok (.iload_n 1, 1) := eX11_belief_12.2.2.2.2.1
theorem dX11_belief_21 : decode cX11_belief 21 = .ok (.invokevirtual 320, 3) := eX11_belief_12.2.2.2.2.2.1
theorem dX11_belief_24 : decode cX11_belief 24 = .ok (.lstore_n 3, 1) := eX11_belief_12.2.2.2.2.2.2.1
theorem dX11_belief_25 : decode cX11_belief 25 = .ok (.aload_n 0, 1) := eX11_belief_12.2.2.2.2.2.2.2.1
theorem eX11_belief_26 : decode cX11_belief 26 = .ok (.getfield 42, 3) ∧ decode cX11_belief 29 = .ok (.iload_n 1, 1) ∧ decode cX11_belief 30 = .ok (.invokevirtual 323, 3) ∧ decode cX11_belief 33 = .ok (.lload_n 3, 1) ∧ decode cX11_belief 34 = .ok (.lsub, 1) ∧ decode cX11_belief 35 = .ok (.lstore 5, 2) ∧ decode cX11_belief 37 = .ok (.aload_n 0, 1) ∧ decode cX11_belief 38 = .ok (.getfield 42, 3) ∧ True := dkl_ok (c := cX11_belief) [(.getfield 42, 3), (.iload_n 1, 1), (.invokevirtual 323, 3), (.lload_n 3, 1), (.lsub, 1), (.lstore 5, 2), (.aload_n 0, 1), (.getfield 42, 3)] 26 (by decide +kernel)
theorem dX11_belief_26 : decode cX11_belief 26 = .ok (.getfield 42, 3) := eX11_belief_26.1
theorem dX11_belief_29 : decode cX11_belief 29 = .ok (.iload_n 1, 1) := eX11_belief_26.2.1
theorem dX11_belief_30 : decode cX11_belief 30 = .ok (.invokevirtual 323, 3) := eX11_belief_26.2.2.1
theorem dX11_belief_33 : decode cX11_belief 33 = .ok (.lload_n 3, 1) := eX11_belief_26.2.2.2.1
theorem dX11_belief_34 : decode cX11_belief 34 = .ok (.lsub, 1) := eX11_belief_26.2.2.2.2.1
theorem dX11_belief_35 : decode cX11_belief 35 = .ok (.lstore 5, 2) := eX11_belief_26.2.2.2.2.2.1
theorem dX11_belief_37 : decode cX11_belief 37 = .ok (.aload_n 0, 1) := eX11_belief_26.2.2.2.2.2.2.1
theorem dX11_belief_38 : decode cX11_belief 38 = .ok (.getfield 42, 3) := eX11_belief_26.2.2.2.2.2.2.2.1
theorem eX11_belief_41 : decode cX11_belief 41 = .ok (.getfield 222, 3) ∧ decode cX11_belief 44 = .ok (.aload_n 0, 1) ∧ decode cX11_belief 45 = .ok (.getfield 42, 3) ∧ decode cX11_belief 48 = .ok (.getfield 198, 3) ∧ decode cX11_belief 51 = .ok (.invokevirtual 330, 3) ∧ decode cX11_belief 54 = .ok (.lstore 7, 2) ∧ decode cX11_belief 56 = .ok (.aload_n 0, 1) ∧ decode cX11_belief 57 = .ok (.getfield 42, 3) ∧ True := dkl_ok (c := cX11_belief) [(.getfield 222, 3), (.aload_n 0, 1), (.getfield 42, 3), (.getfield 198, 3), (.invokevirtual 330, 3), (.lstore 7, 2), (.aload_n 0, 1), (.getfield 42, 3)] 41 (by decide +kernel)
theorem dX11_belief_41 : decode cX11_belief 41 = .ok (.getfield 222, 3) := eX11_belief_41.1
theorem dX11_belief_44 : decode cX11_belief 44 = .ok (.aload_n 0, 1) := eX11_belief_41.2.1
theorem dX11_belief_45 : decode cX11_belief 45 = .ok (.getfield 42, 3) := eX11_belief_41.2.2.1
theorem dX11_belief_48 : decode cX11_belief 48 = .ok (.getfield 198, 3) := eX11_belief_41.2.2.2.1
theorem dX11_belief_51 : decode cX11_belief 51 = .ok (.invokevirtual 330, 3) := eX11_belief_41.2.2.2.2.1
theorem dX11_belief_54 : decode cX11_belief 54 = .ok (.lstore 7, 2) := eX11_belief_41.2.2.2.2.2.1
theorem dX11_belief_56 : decode cX11_belief 56 = .ok (.aload_n 0, 1) := eX11_belief_41.2.2.2.2.2.2.1
theorem dX11_belief_57 : decode cX11_belief 57 = .ok (.getfield 42, 3) := eX11_belief_41.2.2.2.2.2.2.2.1
theorem eX11_belief_60 : decode cX11_belief 60 = .ok (.getfield 222, 3) ∧ decode cX11_belief 63 = .ok (.aload_n 0, 1) ∧ decode cX11_belief 64 = .ok (.getfield 42, 3) ∧ decode cX11_belief 67 = .ok (.getfield 198, 3) ∧ decode cX11_belief 70 = .ok (.invokevirtual 333, 3) ∧ decode cX11_belief 73 = .ok (.lload 7, 2) ∧ decode cX11_belief 75 = .ok (.lsub, 1) ∧ decode cX11_belief 76 = .ok (.lstore 9, 2) ∧ True := dkl_ok (c := cX11_belief) [(.getfield 222, 3), (.aload_n 0, 1), (.getfield 42, 3), (.getfield 198, 3), (.invokevirtual 333, 3), (.lload 7, 2), (.lsub, 1), (.lstore 9, 2)] 60 (by decide +kernel)
theorem dX11_belief_60 : decode cX11_belief 60 = .ok (.getfield 222, 3) := eX11_belief_60.1
theorem dX11_belief_63 : decode cX11_belief 63 = .ok (.aload_n 0, 1) := eX11_belief_60.2.1
theorem dX11_belief_64 : decode cX11_belief 64 = .ok (.getfield 42, 3) := eX11_belief_60.2.2.1
theorem dX11_belief_67 : decode cX11_belief 67 = .ok (.getfield 198, 3) := eX11_belief_60.2.2.2.1
theorem dX11_belief_70 : decode cX11_belief 70 = .ok (.invokevirtual 333, 3) := eX11_belief_60.2.2.2.2.1
theorem dX11_belief_73 : decode cX11_belief 73 = .ok (.lload 7, 2) := eX11_belief_60.2.2.2.2.2.1
theorem dX11_belief_75 : decode cX11_belief 75 = .ok (.lsub, 1) := eX11_belief_60.2.2.2.2.2.2.1
theorem dX11_belief_76 : decode cX11_belief 76 = .ok (.lstore 9, 2) := eX11_belief_60.2.2.2.2.2.2.2.1
theorem eX11_belief_78 : decode cX11_belief 78 = .ok (.aload_n 0, 1) ∧ decode cX11_belief 79 = .ok (.lload_n 3, 1) ∧ decode cX11_belief 80 = .ok (.lload 7, 2) ∧ decode cX11_belief 82 = .ok (.lmul, 1) ∧ decode cX11_belief 83 = .ok (.lload_n 3, 1) ∧ decode cX11_belief 84 = .ok (.lload 7, 2) ∧ decode cX11_belief 86 = .ok (.lmul, 1) ∧ decode cX11_belief 87 = .ok (.lload 5, 2) ∧ True := dkl_ok (c := cX11_belief) [(.aload_n 0, 1), (.lload_n 3, 1), (.lload 7, 2), (.lmul, 1), (.lload_n 3, 1), (.lload 7, 2), (.lmul, 1), (.lload 5, 2)] 78 (by decide +kernel)
theorem dX11_belief_78 : decode cX11_belief 78 = .ok (.aload_n 0, 1) := eX11_belief_78.1
theorem dX11_belief_79 : decode cX11_belief 79 = .ok (.lload_n 3, 1) := eX11_belief_78.2.1
theorem dX11_belief_80 : decode cX11_belief 80 = .ok (.lload 7, 2) := eX11_belief_78.2.2.1
theorem dX11_belief_82 : decode cX11_belief 82 = .ok (.lmul, 1) := eX11_belief_78.2.2.2.1
theorem dX11_belief_83 : decode cX11_belief 83 = .ok (.lload_n 3, 1) := eX11_belief_78.2.2.2.2.1
theorem dX11_belief_84 : decode cX11_belief 84 = .ok (.lload 7, 2) := eX11_belief_78.2.2.2.2.2.1
theorem dX11_belief_86 : decode cX11_belief 86 = .ok (.lmul, 1) := eX11_belief_78.2.2.2.2.2.2.1
theorem dX11_belief_87 : decode cX11_belief 87 = .ok (.lload 5, 2) := eX11_belief_78.2.2.2.2.2.2.2.1
theorem eX11_belief_89 : decode cX11_belief 89 = .ok (.lload 9, 2) ∧ decode cX11_belief 91 = .ok (.lmul, 1) ∧ decode cX11_belief 92 = .ok (.ladd, 1) ∧ decode cX11_belief 93 = .ok (.invokevirtual 326, 3) ∧ decode cX11_belief 96 = .ok (.ireturn, 1) ∧ True := dkl_ok (c := cX11_belief) [(.lload 9, 2), (.lmul, 1), (.ladd, 1), (.invokevirtual 326, 3), (.ireturn, 1)] 89 (by decide +kernel)
theorem dX11_belief_89 : decode cX11_belief 89 = .ok (.lload 9, 2) := eX11_belief_89.1
theorem dX11_belief_91 : decode cX11_belief 91 = .ok (.lmul, 1) := eX11_belief_89.2.1
theorem dX11_belief_92 : decode cX11_belief 92 = .ok (.ladd, 1) := eX11_belief_89.2.2.1
theorem dX11_belief_93 : decode cX11_belief 93 = .ok (.invokevirtual 326, 3) := eX11_belief_89.2.2.2.1
theorem dX11_belief_96 : decode cX11_belief 96 = .ok (.ireturn, 1) := eX11_belief_89.2.2.2.2.1
theorem eX11_worth_0 : decode cX11_worth 0 = .ok (.aload_n 0, 1) ∧ decode cX11_worth 1 = .ok (.iload_n 1, 1) ∧ decode cX11_worth 2 = .ok (.invokevirtual 296, 3) ∧ decode cX11_worth 5 = .ok (.istore_n 2, 1) ∧ decode cX11_worth 6 = .ok (.iload_n 2, 1) ∧ decode cX11_worth 7 = .ok (.ifCond .eq 9, 3) ∧ decode cX11_worth 10 = .ok (.aload_n 0, 1) ∧ decode cX11_worth 11 = .ok (.iload_n 2, 1) ∧ True := dkl_ok (c := cX11_worth) [(.aload_n 0, 1), (.iload_n 1, 1), (.invokevirtual 296, 3), (.istore_n 2, 1), (.iload_n 2, 1), (.ifCond .eq 9, 3), (.aload_n 0, 1), (.iload_n 2, 1)] 0 (by decide +kernel)
theorem dX11_worth_0 : decode cX11_worth 0 = .ok (.aload_n 0, 1) := eX11_worth_0.1
theorem dX11_worth_1 : decode cX11_worth 1 = .ok (.iload_n 1, 1) := eX11_worth_0.2.1
theorem dX11_worth_2 : decode cX11_worth 2 = .ok (.invokevirtual 296, 3) := eX11_worth_0.2.2.1
theorem dX11_worth_5 : decode cX11_worth 5 = .ok (.istore_n 2, 1) := eX11_worth_0.2.2.2.1
theorem dX11_worth_6 : decode cX11_worth 6 = .ok (.iload_n 2, 1) := eX11_worth_0.2.2.2.2.1
theorem dX11_worth_7 : decode cX11_worth 7 = .ok (.ifCond .eq 9, 3) := eX11_worth_0.2.2.2.2.2.1
theorem dX11_worth_10 : decode cX11_worth 10 = .ok (.aload_n 0, 1) := eX11_worth_0.2.2.2.2.2.2.1
theorem dX11_worth_11 : decode cX11_worth 11 = .ok (.iload_n 2, 1) := eX11_worth_0.2.2.2.2.2.2.2.1
theorem eX11_worth_12 : decode cX11_worth 12 = .ok (.invokevirtual 89, 3) ∧ decode cX11_worth 15 = .ok (.ireturn, 1) ∧ decode cX11_worth 16 = .ok (.aload_n 0, 1) ∧ decode cX11_worth 17 = .ok (.aload_n 0, 1) ∧ decode cX11_worth 18 = .ok (.getfield 42, 3) ∧ decode cX11_worth 21 = .ok (.iload_n 1, 1) ∧ decode cX11_worth 22 = .ok (.invokevirtual 336, 3) ∧ decode cX11_worth 25 = .ok (.aload_n 0, 1) ∧ True := dkl_ok (c := cX11_worth) [(.invokevirtual 89, 3), (.ireturn, 1), (.aload_n 0, 1), (.aload_n 0, 1), (.getfield 42, 3), (.iload_n 1, 1), (.invokevirtual 336, 3), (.aload_n 0, 1)] 12 (by decide +kernel)
theorem dX11_worth_12 : decode cX11_worth 12 = .ok (.invokevirtual 89, 3) := eX11_worth_12.1
theorem dX11_worth_15 : decode cX11_worth 15 = .ok (.ireturn, 1) := eX11_worth_12.2.1
theorem dX11_worth_16 : decode cX11_worth 16 = .ok (.aload_n 0, 1) := eX11_worth_12.2.2.1
theorem dX11_worth_17 : decode cX11_worth 17 = .ok (.aload_n 0, 1) := eX11_worth_12.2.2.2.1
theorem dX11_worth_18 : decode cX11_worth 18 = .ok (.getfield 42, 3) := eX11_worth_12.2.2.2.2.1
theorem dX11_worth_21 : decode cX11_worth 21 = .ok (.iload_n 1, 1) := eX11_worth_12.2.2.2.2.2.1
theorem dX11_worth_22 : decode cX11_worth 22 = .ok (.invokevirtual 336, 3) := eX11_worth_12.2.2.2.2.2.2.1
theorem dX11_worth_25 : decode cX11_worth 25 = .ok (.aload_n 0, 1) := eX11_worth_12.2.2.2.2.2.2.2.1
theorem eX11_worth_26 : decode cX11_worth 26 = .ok (.getfield 42, 3) ∧ decode cX11_worth 29 = .ok (.iload_n 1, 1) ∧ decode cX11_worth 30 = .ok (.invokevirtual 323, 3) ∧ decode cX11_worth 33 = .ok (.invokevirtual 326, 3) ∧ decode cX11_worth 36 = .ok (.ireturn, 1) ∧ True := dkl_ok (c := cX11_worth) [(.getfield 42, 3), (.iload_n 1, 1), (.invokevirtual 323, 3), (.invokevirtual 326, 3), (.ireturn, 1)] 26 (by decide +kernel)
theorem dX11_worth_26 : decode cX11_worth 26 = .ok (.getfield 42, 3) := eX11_worth_26.1
theorem dX11_worth_29 : decode cX11_worth 29 = .ok (.iload_n 1, 1) := eX11_worth_26.2.1
theorem dX11_worth_30 : decode cX11_worth 30 = .ok (.invokevirtual 323, 3) := eX11_worth_26.2.2.1
theorem dX11_worth_33 : decode cX11_worth 33 = .ok (.invokevirtual 326, 3) := eX11_worth_26.2.2.2.1
theorem dX11_worth_36 : decode cX11_worth 36 = .ok (.ireturn, 1) := eX11_worth_26.2.2.2.2.1
theorem eX11_ready_0 : decode cX11_ready 0 = .ok (.aload_n 0, 1) ∧ decode cX11_ready 1 = .ok (.getfield 42, 3) ∧ decode cX11_ready 4 = .ok (.getfield 147, 3) ∧ decode cX11_ready 7 = .ok (.getfield 151, 3) ∧ decode cX11_ready 10 = .ok (.istore_n 1, 1) ∧ decode cX11_ready 11 = .ok (.aload_n 0, 1) ∧ decode cX11_ready 12 = .ok (.getfield 42, 3) ∧ decode cX11_ready 15 = .ok (.getfield 210, 3) ∧ True := dkl_ok (c := cX11_ready) [(.aload_n 0, 1), (.getfield 42, 3), (.getfield 147, 3), (.getfield 151, 3), (.istore_n 1, 1), (.aload_n 0, 1), (.getfield 42, 3), (.getfield 210, 3)] 0 (by decide +kernel)
theorem dX11_ready_0 : decode cX11_ready 0 = .ok (.aload_n 0, 1) := eX11_ready_0.1
theorem dX11_ready_1 : decode cX11_ready 1 = .ok (.getfield 42, 3) := eX11_ready_0.2.1
theorem dX11_ready_4 : decode cX11_ready 4 = .ok (.getfield 147, 3) := eX11_ready_0.2.2.1
theorem dX11_ready_7 : decode cX11_ready 7 = .ok (.getfield 151, 3) := eX11_ready_0.2.2.2.1
theorem dX11_ready_10 : decode cX11_ready 10 = .ok (.istore_n 1, 1) := eX11_ready_0.2.2.2.2.1
theorem dX11_ready_11 : decode cX11_ready 11 = .ok (.aload_n 0, 1) := eX11_ready_0.2.2.2.2.2.1
theorem dX11_ready_12 : decode cX11_ready 12 = .ok (.getfield 42, 3) := eX11_ready_0.2.2.2.2.2.2.1
theorem dX11_ready_15 : decode cX11_ready 15 = .ok (.getfield 210, 3) := eX11_ready_0.2.2.2.2.2.2.2.1
theorem eX11_ready_18 : decode cX11_ready 18 = .ok (.ifCond .eq 8, 3) ∧ decode cX11_ready 21 = .ok (.iload_n 1, 1) ∧ decode cX11_ready 22 = .ok (.iconst 2, 1) ∧ decode cX11_ready 23 = .ok (.if_icmp .ge 10, 3) ∧ decode cX11_ready 26 = .ok (.aload_n 0, 1) ∧ decode cX11_ready 27 = .ok (.bipush 8, 2) ∧ decode cX11_ready 29 = .ok (.invokevirtual 109, 3) ∧ decode cX11_ready 32 = .ok (.ireturn, 1) ∧ True := dkl_ok (c := cX11_ready) [(.ifCond .eq 8, 3), (.iload_n 1, 1), (.iconst 2, 1), (.if_icmp .ge 10, 3), (.aload_n 0, 1), (.bipush 8, 2), (.invokevirtual 109, 3), (.ireturn, 1)] 18 (by decide +kernel)
theorem dX11_ready_18 : decode cX11_ready 18 = .ok (.ifCond .eq 8, 3) := eX11_ready_18.1
theorem dX11_ready_21 : decode cX11_ready 21 = .ok (.iload_n 1, 1) := eX11_ready_18.2.1
theorem dX11_ready_22 : decode cX11_ready 22 = .ok (.iconst 2, 1) := eX11_ready_18.2.2.1
theorem dX11_ready_23 : decode cX11_ready 23 = .ok (.if_icmp .ge 10, 3) := eX11_ready_18.2.2.2.1
theorem dX11_ready_26 : decode cX11_ready 26 = .ok (.aload_n 0, 1) := eX11_ready_18.2.2.2.2.1
theorem dX11_ready_27 : decode cX11_ready 27 = .ok (.bipush 8, 2) := eX11_ready_18.2.2.2.2.2.1
theorem dX11_ready_29 : decode cX11_ready 29 = .ok (.invokevirtual 109, 3) := eX11_ready_18.2.2.2.2.2.2.1
theorem dX11_ready_32 : decode cX11_ready 32 = .ok (.ireturn, 1) := eX11_ready_18.2.2.2.2.2.2.2.1
theorem eX11_ready_33 : decode cX11_ready 33 = .ok (.aload_n 0, 1) ∧ decode cX11_ready 34 = .ok (.getfield 42, 3) ∧ decode cX11_ready 37 = .ok (.getfield 147, 3) ∧ decode cX11_ready 40 = .ok (.aload_n 0, 1) ∧ decode cX11_ready 41 = .ok (.getfield 42, 3) ∧ decode cX11_ready 44 = .ok (.getfield 198, 3) ∧ decode cX11_ready 47 = .ok (.iconst 1, 1) ∧ decode cX11_ready 48 = .ok (.invokevirtual 339, 3) ∧ True := dkl_ok (c := cX11_ready) [(.aload_n 0, 1), (.getfield 42, 3), (.getfield 147, 3), (.aload_n 0, 1), (.getfield 42, 3), (.getfield 198, 3), (.iconst 1, 1), (.invokevirtual 339, 3)] 33 (by decide +kernel)
theorem dX11_ready_33 : decode cX11_ready 33 = .ok (.aload_n 0, 1) := eX11_ready_33.1
theorem dX11_ready_34 : decode cX11_ready 34 = .ok (.getfield 42, 3) := eX11_ready_33.2.1
theorem dX11_ready_37 : decode cX11_ready 37 = .ok (.getfield 147, 3) := eX11_ready_33.2.2.1
theorem dX11_ready_40 : decode cX11_ready 40 = .ok (.aload_n 0, 1) := eX11_ready_33.2.2.2.1
theorem dX11_ready_41 : decode cX11_ready 41 = .ok (.getfield 42, 3) := eX11_ready_33.2.2.2.2.1
theorem dX11_ready_44 : decode cX11_ready 44 = .ok (.getfield 198, 3) := eX11_ready_33.2.2.2.2.2.1
theorem dX11_ready_47 : decode cX11_ready 47 = .ok (.iconst 1, 1) := eX11_ready_33.2.2.2.2.2.2.1
theorem dX11_ready_48 : decode cX11_ready 48 = .ok (.invokevirtual 339, 3) := eX11_ready_33.2.2.2.2.2.2.2.1
theorem eX11_ready_51 : decode cX11_ready 51 = .ok (.istore_n 2, 1) ∧ decode cX11_ready 52 = .ok (.iconst 2, 1) ∧ decode cX11_ready 53 = .ok (.istore_n 3, 1) ∧ decode cX11_ready 54 = .ok (.iload_n 3, 1) ∧ decode cX11_ready 55 = .ok (.iload_n 1, 1) ∧ decode cX11_ready 56 = .ok (.if_icmp .ge 72, 3) ∧ decode cX11_ready 59 = .ok (.aload_n 0, 1) ∧ decode cX11_ready 60 = .ok (.getfield 42, 3) ∧ True := dkl_ok (c := cX11_ready) [(.istore_n 2, 1), (.iconst 2, 1), (.istore_n 3, 1), (.iload_n 3, 1), (.iload_n 1, 1), (.if_icmp .ge 72, 3), (.aload_n 0, 1), (.getfield 42, 3)] 51 (by decide +kernel)
theorem dX11_ready_51 : decode cX11_ready 51 = .ok (.istore_n 2, 1) := eX11_ready_51.1
theorem dX11_ready_52 : decode cX11_ready 52 = .ok (.iconst 2, 1) := eX11_ready_51.2.1
theorem dX11_ready_53 : decode cX11_ready 53 = .ok (.istore_n 3, 1) := eX11_ready_51.2.2.1
theorem dX11_ready_54 : decode cX11_ready 54 = .ok (.iload_n 3, 1) := eX11_ready_51.2.2.2.1
theorem dX11_ready_55 : decode cX11_ready 55 = .ok (.iload_n 1, 1) := eX11_ready_51.2.2.2.2.1
theorem dX11_ready_56 : decode cX11_ready 56 = .ok (.if_icmp .ge 72, 3) := eX11_ready_51.2.2.2.2.2.1
theorem dX11_ready_59 : decode cX11_ready 59 = .ok (.aload_n 0, 1) := eX11_ready_51.2.2.2.2.2.2.1
theorem dX11_ready_60 : decode cX11_ready 60 = .ok (.getfield 42, 3) := eX11_ready_51.2.2.2.2.2.2.2.1
theorem eX11_ready_63 : decode cX11_ready 63 = .ok (.getfield 147, 3) ∧ decode cX11_ready 66 = .ok (.aload_n 0, 1) ∧ decode cX11_ready 67 = .ok (.getfield 42, 3) ∧ decode cX11_ready 70 = .ok (.getfield 198, 3) ∧ decode cX11_ready 73 = .ok (.iload_n 3, 1) ∧ decode cX11_ready 74 = .ok (.invokevirtual 339, 3) ∧ decode cX11_ready 77 = .ok (.istore 4, 2) ∧ decode cX11_ready 79 = .ok (.aload_n 0, 1) ∧ True := dkl_ok (c := cX11_ready) [(.getfield 147, 3), (.aload_n 0, 1), (.getfield 42, 3), (.getfield 198, 3), (.iload_n 3, 1), (.invokevirtual 339, 3), (.istore 4, 2), (.aload_n 0, 1)] 63 (by decide +kernel)
theorem dX11_ready_63 : decode cX11_ready 63 = .ok (.getfield 147, 3) := eX11_ready_63.1
theorem dX11_ready_66 : decode cX11_ready 66 = .ok (.aload_n 0, 1) := eX11_ready_63.2.1
theorem dX11_ready_67 : decode cX11_ready 67 = .ok (.getfield 42, 3) := eX11_ready_63.2.2.1
theorem dX11_ready_70 : decode cX11_ready 70 = .ok (.getfield 198, 3) := eX11_ready_63.2.2.2.1
theorem dX11_ready_73 : decode cX11_ready 73 = .ok (.iload_n 3, 1) := eX11_ready_63.2.2.2.2.1
theorem dX11_ready_74 : decode cX11_ready 74 = .ok (.invokevirtual 339, 3) := eX11_ready_63.2.2.2.2.2.1
theorem dX11_ready_77 : decode cX11_ready 77 = .ok (.istore 4, 2) := eX11_ready_63.2.2.2.2.2.2.1
theorem dX11_ready_79 : decode cX11_ready 79 = .ok (.aload_n 0, 1) := eX11_ready_63.2.2.2.2.2.2.2.1
theorem eX11_ready_80 : decode cX11_ready 80 = .ok (.getfield 42, 3) ∧ decode cX11_ready 83 = .ok (.iload 4, 2) ∧ decode cX11_ready 85 = .ok (.invokevirtual 336, 3) ∧ decode cX11_ready 88 = .ok (.aload_n 0, 1) ∧ decode cX11_ready 89 = .ok (.getfield 42, 3) ∧ decode cX11_ready 92 = .ok (.iload_n 2, 1) ∧ decode cX11_ready 93 = .ok (.invokevirtual 323, 3) ∧ decode cX11_ready 96 = .ok (.lmul, 1) ∧ True := dkl_ok (c := cX11_ready) [(.getfield 42, 3), (.iload 4, 2), (.invokevirtual 336, 3), (.aload_n 0, 1), (.getfield 42, 3), (.iload_n 2, 1), (.invokevirtual 323, 3), (.lmul, 1)] 80 (by decide +kernel)
theorem dX11_ready_80 : decode cX11_ready 80 = .ok (.getfield 42, 3) := eX11_ready_80.1
theorem dX11_ready_83 : decode cX11_ready 83 = .ok (.iload 4, 2) := eX11_ready_80.2.1
theorem dX11_ready_85 : decode cX11_ready 85 = .ok (.invokevirtual 336, 3) := eX11_ready_80.2.2.1
theorem dX11_ready_88 : decode cX11_ready 88 = .ok (.aload_n 0, 1) := eX11_ready_80.2.2.2.1
theorem dX11_ready_89 : decode cX11_ready 89 = .ok (.getfield 42, 3) := eX11_ready_80.2.2.2.2.1
theorem dX11_ready_92 : decode cX11_ready 92 = .ok (.iload_n 2, 1) := eX11_ready_80.2.2.2.2.2.1
theorem dX11_ready_93 : decode cX11_ready 93 = .ok (.invokevirtual 323, 3) := eX11_ready_80.2.2.2.2.2.2.1
theorem dX11_ready_96 : decode cX11_ready 96 = .ok (.lmul, 1) := eX11_ready_80.2.2.2.2.2.2.2.1
theorem eX11_ready_97 : decode cX11_ready 97 = .ok (.aload_n 0, 1) ∧ decode cX11_ready 98 = .ok (.getfield 42, 3) ∧ decode cX11_ready 101 = .ok (.iload_n 2, 1) ∧ decode cX11_ready 102 = .ok (.invokevirtual 336, 3) ∧ decode cX11_ready 105 = .ok (.aload_n 0, 1) ∧ decode cX11_ready 106 = .ok (.getfield 42, 3) ∧ decode cX11_ready 109 = .ok (.iload 4, 2) ∧ decode cX11_ready 111 = .ok (.invokevirtual 323, 3) ∧ True := dkl_ok (c := cX11_ready) [(.aload_n 0, 1), (.getfield 42, 3), (.iload_n 2, 1), (.invokevirtual 336, 3), (.aload_n 0, 1), (.getfield 42, 3), (.iload 4, 2), (.invokevirtual 323, 3)] 97 (by decide +kernel)
theorem dX11_ready_97 : decode cX11_ready 97 = .ok (.aload_n 0, 1) := eX11_ready_97.1
theorem dX11_ready_98 : decode cX11_ready 98 = .ok (.getfield 42, 3) := eX11_ready_97.2.1
theorem dX11_ready_101 : decode cX11_ready 101 = .ok (.iload_n 2, 1) := eX11_ready_97.2.2.1
theorem dX11_ready_102 : decode cX11_ready 102 = .ok (.invokevirtual 336, 3) := eX11_ready_97.2.2.2.1
theorem dX11_ready_105 : decode cX11_ready 105 = .ok (.aload_n 0, 1) := eX11_ready_97.2.2.2.2.1
theorem dX11_ready_106 : decode cX11_ready 106 = .ok (.getfield 42, 3) := eX11_ready_97.2.2.2.2.2.1
theorem dX11_ready_109 : decode cX11_ready 109 = .ok (.iload 4, 2) := eX11_ready_97.2.2.2.2.2.2.1
theorem dX11_ready_111 : decode cX11_ready 111 = .ok (.invokevirtual 323, 3) := eX11_ready_97.2.2.2.2.2.2.2.1
theorem eX11_ready_114 : decode cX11_ready 114 = .ok (.lmul, 1) ∧ decode cX11_ready 115 = .ok (.lcmp, 1) ∧ decode cX11_ready 116 = .ok (.ifCond .le 6, 3) ∧ decode cX11_ready 119 = .ok (.iload 4, 2) ∧ decode cX11_ready 121 = .ok (.istore_n 2, 1) ∧ decode cX11_ready 122 = .ok (.iinc 3 1, 3) ∧ decode cX11_ready 125 = .ok (.goto (-71), 3) ∧ decode cX11_ready 128 = .ok (.aload_n 0, 1) ∧ True := dkl_ok (c := cX11_ready) [(.lmul, 1), (.lcmp, 1), (.ifCond .le 6, 3), (.iload 4, 2), (.istore_n 2, 1), (.iinc 3 1, 3), (.goto (-71), 3), (.aload_n 0, 1)] 114 (by decide +kernel)
theorem dX11_ready_114 : decode cX11_ready 114 = .ok (.lmul, 1) := eX11_ready_114.1
theorem dX11_ready_115 : decode cX11_ready 115 = .ok (.lcmp, 1) := eX11_ready_114.2.1
theorem dX11_ready_116 : decode cX11_ready 116 = .ok (.ifCond .le 6, 3) := eX11_ready_114.2.2.1
theorem dX11_ready_119 : decode cX11_ready 119 = .ok (.iload 4, 2) := eX11_ready_114.2.2.2.1
theorem dX11_ready_121 : decode cX11_ready 121 = .ok (.istore_n 2, 1) := eX11_ready_114.2.2.2.2.1
theorem dX11_ready_122 : decode cX11_ready 122 = .ok (.iinc 3 1, 3) := eX11_ready_114.2.2.2.2.2.1
theorem dX11_ready_125 : decode cX11_ready 125 = .ok (.goto (-71), 3) := eX11_ready_114.2.2.2.2.2.2.1
theorem dX11_ready_128 : decode cX11_ready 128 = .ok (.aload_n 0, 1) := eX11_ready_114.2.2.2.2.2.2.2.1
theorem eX11_ready_129 : decode cX11_ready 129 = .ok (.iload_n 2, 1) ∧ decode cX11_ready 130 = .ok (.invokevirtual 156, 3) ∧ decode cX11_ready 133 = .ok (.ireturn, 1) ∧ True := dkl_ok (c := cX11_ready) [(.iload_n 2, 1), (.invokevirtual 156, 3), (.ireturn, 1)] 129 (by decide +kernel)
theorem dX11_ready_129 : decode cX11_ready 129 = .ok (.iload_n 2, 1) := eX11_ready_129.1
theorem dX11_ready_130 : decode cX11_ready 130 = .ok (.invokevirtual 156, 3) := eX11_ready_129.2.1
theorem dX11_ready_133 : decode cX11_ready 133 = .ok (.ireturn, 1) := eX11_ready_129.2.2.1
theorem eX11_heap_0 : decode cX11_heap 0 = .ok (.aload_n 0, 1) ∧ decode cX11_heap 1 = .ok (.iload_n 1, 1) ∧ decode cX11_heap 2 = .ok (.invokevirtual 219, 3) ∧ decode cX11_heap 5 = .ok (.ifCond .eq 11, 3) ∧ decode cX11_heap 8 = .ok (.aload_n 0, 1) ∧ decode cX11_heap 9 = .ok (.iload_n 2, 1) ∧ decode cX11_heap 10 = .ok (.invokevirtual 250, 3) ∧ decode cX11_heap 13 = .ok (.ifCond .ne 9, 3) ∧ True := dkl_ok (c := cX11_heap) [(.aload_n 0, 1), (.iload_n 1, 1), (.invokevirtual 219, 3), (.ifCond .eq 11, 3), (.aload_n 0, 1), (.iload_n 2, 1), (.invokevirtual 250, 3), (.ifCond .ne 9, 3)] 0 (by decide +kernel)
theorem dX11_heap_0 : decode cX11_heap 0 = .ok (.aload_n 0, 1) := eX11_heap_0.1
theorem dX11_heap_1 : decode cX11_heap 1 = .ok (.iload_n 1, 1) := eX11_heap_0.2.1
theorem dX11_heap_2 : decode cX11_heap 2 = .ok (.invokevirtual 219, 3) := eX11_heap_0.2.2.1
theorem dX11_heap_5 : decode cX11_heap 5 = .ok (.ifCond .eq 11, 3) := eX11_heap_0.2.2.2.1
theorem dX11_heap_8 : decode cX11_heap 8 = .ok (.aload_n 0, 1) := eX11_heap_0.2.2.2.2.1
theorem dX11_heap_9 : decode cX11_heap 9 = .ok (.iload_n 2, 1) := eX11_heap_0.2.2.2.2.2.1
theorem dX11_heap_10 : decode cX11_heap 10 = .ok (.invokevirtual 250, 3) := eX11_heap_0.2.2.2.2.2.2.1
theorem dX11_heap_13 : decode cX11_heap 13 = .ok (.ifCond .ne 9, 3) := eX11_heap_0.2.2.2.2.2.2.2.1
theorem eX11_heap_16 : decode cX11_heap 16 = .ok (.aload_n 0, 1) ∧ decode cX11_heap 17 = .ok (.iconst 2, 1) ∧ decode cX11_heap 18 = .ok (.invokevirtual 89, 3) ∧ decode cX11_heap 21 = .ok (.ireturn, 1) ∧ decode cX11_heap 22 = .ok (.aload_n 0, 1) ∧ decode cX11_heap 23 = .ok (.getfield 42, 3) ∧ decode cX11_heap 26 = .ok (.getfield 222, 3) ∧ decode cX11_heap 29 = .ok (.iload_n 1, 1) ∧ True := dkl_ok (c := cX11_heap) [(.aload_n 0, 1), (.iconst 2, 1), (.invokevirtual 89, 3), (.ireturn, 1), (.aload_n 0, 1), (.getfield 42, 3), (.getfield 222, 3), (.iload_n 1, 1)] 16 (by decide +kernel)
theorem dX11_heap_16 : decode cX11_heap 16 = .ok (.aload_n 0, 1) := eX11_heap_16.1
theorem dX11_heap_17 : decode cX11_heap 17 = .ok (.iconst 2, 1) := eX11_heap_16.2.1
theorem dX11_heap_18 : decode cX11_heap 18 = .ok (.invokevirtual 89, 3) := eX11_heap_16.2.2.1
theorem dX11_heap_21 : decode cX11_heap 21 = .ok (.ireturn, 1) := eX11_heap_16.2.2.2.1
theorem dX11_heap_22 : decode cX11_heap 22 = .ok (.aload_n 0, 1) := eX11_heap_16.2.2.2.2.1
theorem dX11_heap_23 : decode cX11_heap 23 = .ok (.getfield 42, 3) := eX11_heap_16.2.2.2.2.2.1
theorem dX11_heap_26 : decode cX11_heap 26 = .ok (.getfield 222, 3) := eX11_heap_16.2.2.2.2.2.2.1
theorem dX11_heap_29 : decode cX11_heap 29 = .ok (.iload_n 1, 1) := eX11_heap_16.2.2.2.2.2.2.2.1
theorem eX11_heap_30 : decode cX11_heap 30 = .ok (.iload_n 2, 1) ∧ decode cX11_heap 31 = .ok (.invokevirtual 342, 3) ∧ decode cX11_heap 34 = .ok (.i2l, 1) ∧ decode cX11_heap 35 = .ok (.lstore_n 3, 1) ∧ decode cX11_heap 36 = .ok (.aload_n 0, 1) ∧ decode cX11_heap 37 = .ok (.getfield 42, 3) ∧ decode cX11_heap 40 = .ok (.getfield 201, 3) ∧ decode cX11_heap 43 = .ok (.getfield 205, 3) ∧ True := dkl_ok (c := cX11_heap) [(.iload_n 2, 1), (.invokevirtual 342, 3), (.i2l, 1), (.lstore_n 3, 1), (.aload_n 0, 1), (.getfield 42, 3), (.getfield 201, 3), (.getfield 205, 3)] 30 (by decide +kernel)
theorem dX11_heap_30 : decode cX11_heap 30 = .ok (.iload_n 2, 1) := eX11_heap_30.1
theorem dX11_heap_31 : decode cX11_heap 31 = .ok (.invokevirtual 342, 3) := eX11_heap_30.2.1
theorem dX11_heap_34 : decode cX11_heap 34 = .ok (.i2l, 1) := eX11_heap_30.2.2.1
theorem dX11_heap_35 : decode cX11_heap 35 = .ok (.lstore_n 3, 1) := eX11_heap_30.2.2.2.1
theorem dX11_heap_36 : decode cX11_heap 36 = .ok (.aload_n 0, 1) := eX11_heap_30.2.2.2.2.1
theorem dX11_heap_37 : decode cX11_heap 37 = .ok (.getfield 42, 3) := eX11_heap_30.2.2.2.2.2.1
theorem dX11_heap_40 : decode cX11_heap 40 = .ok (.getfield 201, 3) := eX11_heap_30.2.2.2.2.2.2.1
theorem dX11_heap_43 : decode cX11_heap 43 = .ok (.getfield 205, 3) := eX11_heap_30.2.2.2.2.2.2.2.1
theorem eX11_heap_46 : decode cX11_heap 46 = .ok (.aload_n 0, 1) ∧ decode cX11_heap 47 = .ok (.getfield 42, 3) ∧ decode cX11_heap 50 = .ok (.getfield 222, 3) ∧ decode cX11_heap 53 = .ok (.iload_n 1, 1) ∧ decode cX11_heap 54 = .ok (.invokevirtual 247, 3) ∧ decode cX11_heap 57 = .ok (.isub, 1) ∧ decode cX11_heap 58 = .ok (.i2l, 1) ∧ decode cX11_heap 59 = .ok (.lstore 5, 2) ∧ True := dkl_ok (c := cX11_heap) [(.aload_n 0, 1), (.getfield 42, 3), (.getfield 222, 3), (.iload_n 1, 1), (.invokevirtual 247, 3), (.isub, 1), (.i2l, 1), (.lstore 5, 2)] 46 (by decide +kernel)
theorem dX11_heap_46 : decode cX11_heap 46 = .ok (.aload_n 0, 1) := eX11_heap_46.1
theorem dX11_heap_47 : decode cX11_heap 47 = .ok (.getfield 42, 3) := eX11_heap_46.2.1
theorem dX11_heap_50 : decode cX11_heap 50 = .ok (.getfield 222, 3) := eX11_heap_46.2.2.1
theorem dX11_heap_53 : decode cX11_heap 53 = .ok (.iload_n 1, 1) := eX11_heap_46.2.2.2.1
theorem dX11_heap_54 : decode cX11_heap 54 = .ok (.invokevirtual 247, 3) := eX11_heap_46.2.2.2.2.1
theorem dX11_heap_57 : decode cX11_heap 57 = .ok (.isub, 1) := eX11_heap_46.2.2.2.2.2.1
theorem dX11_heap_58 : decode cX11_heap 58 = .ok (.i2l, 1) := eX11_heap_46.2.2.2.2.2.2.1
theorem dX11_heap_59 : decode cX11_heap 59 = .ok (.lstore 5, 2) := eX11_heap_46.2.2.2.2.2.2.2.1
theorem eX11_heap_61 : decode cX11_heap 61 = .ok (.aload_n 0, 1) ∧ decode cX11_heap 62 = .ok (.getfield 42, 3) ∧ decode cX11_heap 65 = .ok (.iload_n 1, 1) ∧ decode cX11_heap 66 = .ok (.invokevirtual 311, 3) ∧ decode cX11_heap 69 = .ok (.i2l, 1) ∧ decode cX11_heap 70 = .ok (.lstore 7, 2) ∧ decode cX11_heap 72 = .ok (.lload 7, 2) ∧ decode cX11_heap 74 = .ok (.lconst 0, 1) ∧ True := dkl_ok (c := cX11_heap) [(.aload_n 0, 1), (.getfield 42, 3), (.iload_n 1, 1), (.invokevirtual 311, 3), (.i2l, 1), (.lstore 7, 2), (.lload 7, 2), (.lconst 0, 1)] 61 (by decide +kernel)
theorem dX11_heap_61 : decode cX11_heap 61 = .ok (.aload_n 0, 1) := eX11_heap_61.1
theorem dX11_heap_62 : decode cX11_heap 62 = .ok (.getfield 42, 3) := eX11_heap_61.2.1
theorem dX11_heap_65 : decode cX11_heap 65 = .ok (.iload_n 1, 1) := eX11_heap_61.2.2.1
theorem dX11_heap_66 : decode cX11_heap 66 = .ok (.invokevirtual 311, 3) := eX11_heap_61.2.2.2.1
theorem dX11_heap_69 : decode cX11_heap 69 = .ok (.i2l, 1) := eX11_heap_61.2.2.2.2.1
theorem dX11_heap_70 : decode cX11_heap 70 = .ok (.lstore 7, 2) := eX11_heap_61.2.2.2.2.2.1
theorem dX11_heap_72 : decode cX11_heap 72 = .ok (.lload 7, 2) := eX11_heap_61.2.2.2.2.2.2.1
theorem dX11_heap_74 : decode cX11_heap 74 = .ok (.lconst 0, 1) := eX11_heap_61.2.2.2.2.2.2.2.1
theorem eX11_heap_75 : decode cX11_heap 75 = .ok (.lcmp, 1) ∧ decode cX11_heap 76 = .ok (.ifCond .ne 10, 3) ∧ decode cX11_heap 79 = .ok (.aload_n 0, 1) ∧ decode cX11_heap 80 = .ok (.lload_n 3, 1) ∧ decode cX11_heap 81 = .ok (.lconst 1, 1) ∧ decode cX11_heap 82 = .ok (.invokevirtual 326, 3) ∧ decode cX11_heap 85 = .ok (.ireturn, 1) ∧ decode cX11_heap 86 = .ok (.aload_n 0, 1) ∧ True := dkl_ok (c := cX11_heap) [(.lcmp, 1), (.ifCond .ne 10, 3), (.aload_n 0, 1), (.lload_n 3, 1), (.lconst 1, 1), (.invokevirtual 326, 3), (.ireturn, 1), (.aload_n 0, 1)] 75 (by decide +kernel)
theorem dX11_heap_75 : decode cX11_heap 75 = .ok (.lcmp, 1) := eX11_heap_75.1
theorem dX11_heap_76 : decode cX11_heap 76 = .ok (.ifCond .ne 10, 3) := eX11_heap_75.2.1
theorem dX11_heap_79 : decode cX11_heap 79 = .ok (.aload_n 0, 1) := eX11_heap_75.2.2.1
theorem dX11_heap_80 : decode cX11_heap 80 = .ok (.lload_n 3, 1) := eX11_heap_75.2.2.2.1
theorem dX11_heap_81 : decode cX11_heap 81 = .ok (.lconst 1, 1) := eX11_heap_75.2.2.2.2.1
theorem dX11_heap_82 : decode cX11_heap 82 = .ok (.invokevirtual 326, 3) := eX11_heap_75.2.2.2.2.2.1
theorem dX11_heap_85 : decode cX11_heap 85 = .ok (.ireturn, 1) := eX11_heap_75.2.2.2.2.2.2.1
theorem dX11_heap_86 : decode cX11_heap 86 = .ok (.aload_n 0, 1) := eX11_heap_75.2.2.2.2.2.2.2.1
theorem eX11_heap_87 : decode cX11_heap 87 = .ok (.lload_n 3, 1) ∧ decode cX11_heap 88 = .ok (.lload 7, 2) ∧ decode cX11_heap 90 = .ok (.lmul, 1) ∧ decode cX11_heap 91 = .ok (.lload 5, 2) ∧ decode cX11_heap 93 = .ok (.aload_n 0, 1) ∧ decode cX11_heap 94 = .ok (.getfield 42, 3) ∧ decode cX11_heap 97 = .ok (.iload_n 1, 1) ∧ decode cX11_heap 98 = .ok (.iload_n 2, 1) ∧ True := dkl_ok (c := cX11_heap) [(.lload_n 3, 1), (.lload 7, 2), (.lmul, 1), (.lload 5, 2), (.aload_n 0, 1), (.getfield 42, 3), (.iload_n 1, 1), (.iload_n 2, 1)] 87 (by decide +kernel)
theorem dX11_heap_87 : decode cX11_heap 87 = .ok (.lload_n 3, 1) := eX11_heap_87.1
theorem dX11_heap_88 : decode cX11_heap 88 = .ok (.lload 7, 2) := eX11_heap_87.2.1
theorem dX11_heap_90 : decode cX11_heap 90 = .ok (.lmul, 1) := eX11_heap_87.2.2.1
theorem dX11_heap_91 : decode cX11_heap 91 = .ok (.lload 5, 2) := eX11_heap_87.2.2.2.1
theorem dX11_heap_93 : decode cX11_heap 93 = .ok (.aload_n 0, 1) := eX11_heap_87.2.2.2.2.1
theorem dX11_heap_94 : decode cX11_heap 94 = .ok (.getfield 42, 3) := eX11_heap_87.2.2.2.2.2.1
theorem dX11_heap_97 : decode cX11_heap 97 = .ok (.iload_n 1, 1) := eX11_heap_87.2.2.2.2.2.2.1
theorem dX11_heap_98 : decode cX11_heap 98 = .ok (.iload_n 2, 1) := eX11_heap_87.2.2.2.2.2.2.2.1
theorem eX11_heap_99 : decode cX11_heap 99 = .ok (.invokevirtual 314, 3) ∧ decode cX11_heap 102 = .ok (.i2l, 1) ∧ decode cX11_heap 103 = .ok (.lmul, 1) ∧ decode cX11_heap 104 = .ok (.ladd, 1) ∧ decode cX11_heap 105 = .ok (.lload 7, 2) ∧ decode cX11_heap 107 = .ok (.invokevirtual 326, 3) ∧ decode cX11_heap 110 = .ok (.ireturn, 1) ∧ True := dkl_ok (c := cX11_heap) [(.invokevirtual 314, 3), (.i2l, 1), (.lmul, 1), (.ladd, 1), (.lload 7, 2), (.invokevirtual 326, 3), (.ireturn, 1)] 99 (by decide +kernel)
theorem dX11_heap_99 : decode cX11_heap 99 = .ok (.invokevirtual 314, 3) := eX11_heap_99.1
theorem dX11_heap_102 : decode cX11_heap 102 = .ok (.i2l, 1) := eX11_heap_99.2.1
theorem dX11_heap_103 : decode cX11_heap 103 = .ok (.lmul, 1) := eX11_heap_99.2.2.1
theorem dX11_heap_104 : decode cX11_heap 104 = .ok (.ladd, 1) := eX11_heap_99.2.2.2.1
theorem dX11_heap_105 : decode cX11_heap 105 = .ok (.lload 7, 2) := eX11_heap_99.2.2.2.2.1
theorem dX11_heap_107 : decode cX11_heap 107 = .ok (.invokevirtual 326, 3) := eX11_heap_99.2.2.2.2.2.1
theorem dX11_heap_110 : decode cX11_heap 110 = .ok (.ireturn, 1) := eX11_heap_99.2.2.2.2.2.2.1
theorem eX11_said_0 : decode cX11_said 0 = .ok (.aload_n 0, 1) ∧ decode cX11_said 1 = .ok (.iload_n 1, 1) ∧ decode cX11_said 2 = .ok (.invokevirtual 219, 3) ∧ decode cX11_said 5 = .ok (.ifCond .eq 11, 3) ∧ decode cX11_said 8 = .ok (.aload_n 0, 1) ∧ decode cX11_said 9 = .ok (.iload_n 2, 1) ∧ decode cX11_said 10 = .ok (.invokevirtual 250, 3) ∧ decode cX11_said 13 = .ok (.ifCond .ne 9, 3) ∧ True := dkl_ok (c := cX11_said) [(.aload_n 0, 1), (.iload_n 1, 1), (.invokevirtual 219, 3), (.ifCond .eq 11, 3), (.aload_n 0, 1), (.iload_n 2, 1), (.invokevirtual 250, 3), (.ifCond .ne 9, 3)] 0 (by decide +kernel)
theorem dX11_said_0 : decode cX11_said 0 = .ok (.aload_n 0, 1) := eX11_said_0.1
theorem dX11_said_1 : decode cX11_said 1 = .ok (.iload_n 1, 1) := eX11_said_0.2.1
theorem dX11_said_2 : decode cX11_said 2 = .ok (.invokevirtual 219, 3) := eX11_said_0.2.2.1
theorem dX11_said_5 : decode cX11_said 5 = .ok (.ifCond .eq 11, 3) := eX11_said_0.2.2.2.1
theorem dX11_said_8 : decode cX11_said 8 = .ok (.aload_n 0, 1) := eX11_said_0.2.2.2.2.1
theorem dX11_said_9 : decode cX11_said 9 = .ok (.iload_n 2, 1) := eX11_said_0.2.2.2.2.2.1
theorem dX11_said_10 : decode cX11_said 10 = .ok (.invokevirtual 250, 3) := eX11_said_0.2.2.2.2.2.2.1
theorem dX11_said_13 : decode cX11_said 13 = .ok (.ifCond .ne 9, 3) := eX11_said_0.2.2.2.2.2.2.2.1
theorem eX11_said_16 : decode cX11_said 16 = .ok (.aload_n 0, 1) ∧ decode cX11_said 17 = .ok (.iconst 2, 1) ∧ decode cX11_said 18 = .ok (.invokevirtual 109, 3) ∧ decode cX11_said 21 = .ok (.ireturn, 1) ∧ decode cX11_said 22 = .ok (.aload_n 0, 1) ∧ decode cX11_said 23 = .ok (.aload_n 0, 1) ∧ decode cX11_said 24 = .ok (.getfield 42, 3) ∧ decode cX11_said 27 = .ok (.getfield 201, 3) ∧ True := dkl_ok (c := cX11_said) [(.aload_n 0, 1), (.iconst 2, 1), (.invokevirtual 109, 3), (.ireturn, 1), (.aload_n 0, 1), (.aload_n 0, 1), (.getfield 42, 3), (.getfield 201, 3)] 16 (by decide +kernel)
theorem dX11_said_16 : decode cX11_said 16 = .ok (.aload_n 0, 1) := eX11_said_16.1
theorem dX11_said_17 : decode cX11_said 17 = .ok (.iconst 2, 1) := eX11_said_16.2.1
theorem dX11_said_18 : decode cX11_said 18 = .ok (.invokevirtual 109, 3) := eX11_said_16.2.2.1
theorem dX11_said_21 : decode cX11_said 21 = .ok (.ireturn, 1) := eX11_said_16.2.2.2.1
theorem dX11_said_22 : decode cX11_said 22 = .ok (.aload_n 0, 1) := eX11_said_16.2.2.2.2.1
theorem dX11_said_23 : decode cX11_said 23 = .ok (.aload_n 0, 1) := eX11_said_16.2.2.2.2.2.1
theorem dX11_said_24 : decode cX11_said 24 = .ok (.getfield 42, 3) := eX11_said_16.2.2.2.2.2.2.1
theorem dX11_said_27 : decode cX11_said 27 = .ok (.getfield 201, 3) := eX11_said_16.2.2.2.2.2.2.2.1
theorem eX11_said_30 : decode cX11_said 30 = .ok (.iload_n 1, 1) ∧ decode cX11_said 31 = .ok (.iload_n 2, 1) ∧ decode cX11_said 32 = .ok (.invokevirtual 345, 3) ∧ decode cX11_said 35 = .ok (.invokevirtual 156, 3) ∧ decode cX11_said 38 = .ok (.ireturn, 1) ∧ True := dkl_ok (c := cX11_said) [(.iload_n 1, 1), (.iload_n 2, 1), (.invokevirtual 345, 3), (.invokevirtual 156, 3), (.ireturn, 1)] 30 (by decide +kernel)
theorem dX11_said_30 : decode cX11_said 30 = .ok (.iload_n 1, 1) := eX11_said_30.1
theorem dX11_said_31 : decode cX11_said 31 = .ok (.iload_n 2, 1) := eX11_said_30.2.1
theorem dX11_said_32 : decode cX11_said 32 = .ok (.invokevirtual 345, 3) := eX11_said_30.2.2.1
theorem dX11_said_35 : decode cX11_said 35 = .ok (.invokevirtual 156, 3) := eX11_said_30.2.2.2.1
theorem dX11_said_38 : decode cX11_said 38 = .ok (.ireturn, 1) := eX11_said_30.2.2.2.2.1
theorem eX11_waits_0 : decode cX11_waits 0 = .ok (.aload_n 0, 1) ∧ decode cX11_waits 1 = .ok (.iload_n 1, 1) ∧ decode cX11_waits 2 = .ok (.invokevirtual 219, 3) ∧ decode cX11_waits 5 = .ok (.ifCond .eq 18, 3) ∧ decode cX11_waits 8 = .ok (.aload_n 0, 1) ∧ decode cX11_waits 9 = .ok (.aload_n 0, 1) ∧ decode cX11_waits 10 = .ok (.getfield 42, 3) ∧ decode cX11_waits 13 = .ok (.iload_n 1, 1) ∧ True := dkl_ok (c := cX11_waits) [(.aload_n 0, 1), (.iload_n 1, 1), (.invokevirtual 219, 3), (.ifCond .eq 18, 3), (.aload_n 0, 1), (.aload_n 0, 1), (.getfield 42, 3), (.iload_n 1, 1)] 0 (by decide +kernel)
theorem dX11_waits_0 : decode cX11_waits 0 = .ok (.aload_n 0, 1) := eX11_waits_0.1
theorem dX11_waits_1 : decode cX11_waits 1 = .ok (.iload_n 1, 1) := eX11_waits_0.2.1
theorem dX11_waits_2 : decode cX11_waits 2 = .ok (.invokevirtual 219, 3) := eX11_waits_0.2.2.1
theorem dX11_waits_5 : decode cX11_waits 5 = .ok (.ifCond .eq 18, 3) := eX11_waits_0.2.2.2.1
theorem dX11_waits_8 : decode cX11_waits 8 = .ok (.aload_n 0, 1) := eX11_waits_0.2.2.2.2.1
theorem dX11_waits_9 : decode cX11_waits 9 = .ok (.aload_n 0, 1) := eX11_waits_0.2.2.2.2.2.1
theorem dX11_waits_10 : decode cX11_waits 10 = .ok (.getfield 42, 3) := eX11_waits_0.2.2.2.2.2.2.1
theorem dX11_waits_13 : decode cX11_waits 13 = .ok (.iload_n 1, 1) := eX11_waits_0.2.2.2.2.2.2.2.1
theorem eX11_waits_14 : decode cX11_waits 14 = .ok (.invokevirtual 348, 3) ∧ decode cX11_waits 17 = .ok (.invokevirtual 156, 3) ∧ decode cX11_waits 20 = .ok (.goto 8, 3) ∧ decode cX11_waits 23 = .ok (.aload_n 0, 1) ∧ decode cX11_waits 24 = .ok (.iconst 2, 1) ∧ decode cX11_waits 25 = .ok (.invokevirtual 109, 3) ∧ decode cX11_waits 28 = .ok (.ireturn, 1) ∧ True := dkl_ok (c := cX11_waits) [(.invokevirtual 348, 3), (.invokevirtual 156, 3), (.goto 8, 3), (.aload_n 0, 1), (.iconst 2, 1), (.invokevirtual 109, 3), (.ireturn, 1)] 14 (by decide +kernel)
theorem dX11_waits_14 : decode cX11_waits 14 = .ok (.invokevirtual 348, 3) := eX11_waits_14.1
theorem dX11_waits_17 : decode cX11_waits 17 = .ok (.invokevirtual 156, 3) := eX11_waits_14.2.1
theorem dX11_waits_20 : decode cX11_waits 20 = .ok (.goto 8, 3) := eX11_waits_14.2.2.1
theorem dX11_waits_23 : decode cX11_waits 23 = .ok (.aload_n 0, 1) := eX11_waits_14.2.2.2.1
theorem dX11_waits_24 : decode cX11_waits 24 = .ok (.iconst 2, 1) := eX11_waits_14.2.2.2.2.1
theorem dX11_waits_25 : decode cX11_waits 25 = .ok (.invokevirtual 109, 3) := eX11_waits_14.2.2.2.2.2.1
theorem dX11_waits_28 : decode cX11_waits 28 = .ok (.ireturn, 1) := eX11_waits_14.2.2.2.2.2.2.1
theorem eX11_falls_0 : decode cX11_falls 0 = .ok (.aload_n 0, 1) ∧ decode cX11_falls 1 = .ok (.iload_n 1, 1) ∧ decode cX11_falls 2 = .ok (.iload_n 2, 1) ∧ decode cX11_falls 3 = .ok (.invokevirtual 351, 3) ∧ decode cX11_falls 6 = .ok (.istore_n 3, 1) ∧ decode cX11_falls 7 = .ok (.iload_n 3, 1) ∧ decode cX11_falls 8 = .ok (.ifCond .ne 19, 3) ∧ decode cX11_falls 11 = .ok (.aload_n 0, 1) ∧ True := dkl_ok (c := cX11_falls) [(.aload_n 0, 1), (.iload_n 1, 1), (.iload_n 2, 1), (.invokevirtual 351, 3), (.istore_n 3, 1), (.iload_n 3, 1), (.ifCond .ne 19, 3), (.aload_n 0, 1)] 0 (by decide +kernel)
theorem dX11_falls_0 : decode cX11_falls 0 = .ok (.aload_n 0, 1) := eX11_falls_0.1
theorem dX11_falls_1 : decode cX11_falls 1 = .ok (.iload_n 1, 1) := eX11_falls_0.2.1
theorem dX11_falls_2 : decode cX11_falls 2 = .ok (.iload_n 2, 1) := eX11_falls_0.2.2.1
theorem dX11_falls_3 : decode cX11_falls 3 = .ok (.invokevirtual 351, 3) := eX11_falls_0.2.2.2.1
theorem dX11_falls_6 : decode cX11_falls 6 = .ok (.istore_n 3, 1) := eX11_falls_0.2.2.2.2.1
theorem dX11_falls_7 : decode cX11_falls 7 = .ok (.iload_n 3, 1) := eX11_falls_0.2.2.2.2.2.1
theorem dX11_falls_8 : decode cX11_falls 8 = .ok (.ifCond .ne 19, 3) := eX11_falls_0.2.2.2.2.2.2.1
theorem dX11_falls_11 : decode cX11_falls 11 = .ok (.aload_n 0, 1) := eX11_falls_0.2.2.2.2.2.2.2.1
theorem eX11_falls_12 : decode cX11_falls 12 = .ok (.aload_n 0, 1) ∧ decode cX11_falls 13 = .ok (.getfield 42, 3) ∧ decode cX11_falls 16 = .ok (.iload_n 1, 1) ∧ decode cX11_falls 17 = .ok (.iload_n 2, 1) ∧ decode cX11_falls 18 = .ok (.invokevirtual 354, 3) ∧ decode cX11_falls 21 = .ok (.invokevirtual 156, 3) ∧ decode cX11_falls 24 = .ok (.goto 8, 3) ∧ decode cX11_falls 27 = .ok (.aload_n 0, 1) ∧ True := dkl_ok (c := cX11_falls) [(.aload_n 0, 1), (.getfield 42, 3), (.iload_n 1, 1), (.iload_n 2, 1), (.invokevirtual 354, 3), (.invokevirtual 156, 3), (.goto 8, 3), (.aload_n 0, 1)] 12 (by decide +kernel)
theorem dX11_falls_12 : decode cX11_falls 12 = .ok (.aload_n 0, 1) := eX11_falls_12.1
theorem dX11_falls_13 : decode cX11_falls 13 = .ok (.getfield 42, 3) := eX11_falls_12.2.1
theorem dX11_falls_16 : decode cX11_falls 16 = .ok (.iload_n 1, 1) := eX11_falls_12.2.2.1
theorem dX11_falls_17 : decode cX11_falls 17 = .ok (.iload_n 2, 1) := eX11_falls_12.2.2.2.1
theorem dX11_falls_18 : decode cX11_falls 18 = .ok (.invokevirtual 354, 3) := eX11_falls_12.2.2.2.2.1
theorem dX11_falls_21 : decode cX11_falls 21 = .ok (.invokevirtual 156, 3) := eX11_falls_12.2.2.2.2.2.1
theorem dX11_falls_24 : decode cX11_falls 24 = .ok (.goto 8, 3) := eX11_falls_12.2.2.2.2.2.2.1
theorem dX11_falls_27 : decode cX11_falls 27 = .ok (.aload_n 0, 1) := eX11_falls_12.2.2.2.2.2.2.2.1
theorem eX11_falls_28 : decode cX11_falls 28 = .ok (.iload_n 3, 1) ∧ decode cX11_falls 29 = .ok (.invokevirtual 109, 3) ∧ decode cX11_falls 32 = .ok (.ireturn, 1) ∧ True := dkl_ok (c := cX11_falls) [(.iload_n 3, 1), (.invokevirtual 109, 3), (.ireturn, 1)] 28 (by decide +kernel)
theorem dX11_falls_28 : decode cX11_falls 28 = .ok (.iload_n 3, 1) := eX11_falls_28.1
theorem dX11_falls_29 : decode cX11_falls 29 = .ok (.invokevirtual 109, 3) := eX11_falls_28.2.1
theorem dX11_falls_32 : decode cX11_falls 32 = .ok (.ireturn, 1) := eX11_falls_28.2.2.1
theorem eX11_honestly_0 : decode cX11_honestly 0 = .ok (.aload_n 0, 1) ∧ decode cX11_honestly 1 = .ok (.iload_n 1, 1) ∧ decode cX11_honestly 2 = .ok (.iload_n 2, 1) ∧ decode cX11_honestly 3 = .ok (.invokevirtual 351, 3) ∧ decode cX11_honestly 6 = .ok (.istore_n 3, 1) ∧ decode cX11_honestly 7 = .ok (.iload_n 3, 1) ∧ decode cX11_honestly 8 = .ok (.ifCond .eq 9, 3) ∧ decode cX11_honestly 11 = .ok (.aload_n 0, 1) ∧ True := dkl_ok (c := cX11_honestly) [(.aload_n 0, 1), (.iload_n 1, 1), (.iload_n 2, 1), (.invokevirtual 351, 3), (.istore_n 3, 1), (.iload_n 3, 1), (.ifCond .eq 9, 3), (.aload_n 0, 1)] 0 (by decide +kernel)
theorem dX11_honestly_0 : decode cX11_honestly 0 = .ok (.aload_n 0, 1) := eX11_honestly_0.1
theorem dX11_honestly_1 : decode cX11_honestly 1 = .ok (.iload_n 1, 1) := eX11_honestly_0.2.1
theorem dX11_honestly_2 : decode cX11_honestly 2 = .ok (.iload_n 2, 1) := eX11_honestly_0.2.2.1
theorem dX11_honestly_3 : decode cX11_honestly 3 = .ok (.invokevirtual 351, 3) := eX11_honestly_0.2.2.2.1
theorem dX11_honestly_6 : decode cX11_honestly 6 = .ok (.istore_n 3, 1) := eX11_honestly_0.2.2.2.2.1
theorem dX11_honestly_7 : decode cX11_honestly 7 = .ok (.iload_n 3, 1) := eX11_honestly_0.2.2.2.2.2.1
theorem dX11_honestly_8 : decode cX11_honestly 8 = .ok (.ifCond .eq 9, 3) := eX11_honestly_0.2.2.2.2.2.2.1
theorem dX11_honestly_11 : decode cX11_honestly 11 = .ok (.aload_n 0, 1) := eX11_honestly_0.2.2.2.2.2.2.2.1
theorem eX11_honestly_12 : decode cX11_honestly 12 = .ok (.iload_n 3, 1) ∧ decode cX11_honestly 13 = .ok (.invokevirtual 109, 3) ∧ decode cX11_honestly 16 = .ok (.ireturn, 1) ∧ decode cX11_honestly 17 = .ok (.aload_n 0, 1) ∧ decode cX11_honestly 18 = .ok (.getfield 42, 3) ∧ decode cX11_honestly 21 = .ok (.iload_n 1, 1) ∧ decode cX11_honestly 22 = .ok (.iload_n 2, 1) ∧ decode cX11_honestly 23 = .ok (.invokevirtual 357, 3) ∧ True := dkl_ok (c := cX11_honestly) [(.iload_n 3, 1), (.invokevirtual 109, 3), (.ireturn, 1), (.aload_n 0, 1), (.getfield 42, 3), (.iload_n 1, 1), (.iload_n 2, 1), (.invokevirtual 357, 3)] 12 (by decide +kernel)
theorem dX11_honestly_12 : decode cX11_honestly 12 = .ok (.iload_n 3, 1) := eX11_honestly_12.1
theorem dX11_honestly_13 : decode cX11_honestly 13 = .ok (.invokevirtual 109, 3) := eX11_honestly_12.2.1
theorem dX11_honestly_16 : decode cX11_honestly 16 = .ok (.ireturn, 1) := eX11_honestly_12.2.2.1
theorem dX11_honestly_17 : decode cX11_honestly 17 = .ok (.aload_n 0, 1) := eX11_honestly_12.2.2.2.1
theorem dX11_honestly_18 : decode cX11_honestly 18 = .ok (.getfield 42, 3) := eX11_honestly_12.2.2.2.2.1
theorem dX11_honestly_21 : decode cX11_honestly 21 = .ok (.iload_n 1, 1) := eX11_honestly_12.2.2.2.2.2.1
theorem dX11_honestly_22 : decode cX11_honestly 22 = .ok (.iload_n 2, 1) := eX11_honestly_12.2.2.2.2.2.2.1
theorem dX11_honestly_23 : decode cX11_honestly 23 = .ok (.invokevirtual 357, 3) := eX11_honestly_12.2.2.2.2.2.2.2.1
theorem eX11_honestly_26 : decode cX11_honestly 26 = .ok (.aload_n 0, 1) ∧ decode cX11_honestly 27 = .ok (.aload_n 0, 1) ∧ decode cX11_honestly 28 = .ok (.getfield 42, 3) ∧ decode cX11_honestly 31 = .ok (.getfield 360, 3) ∧ decode cX11_honestly 34 = .ok (.invokevirtual 156, 3) ∧ decode cX11_honestly 37 = .ok (.ireturn, 1) ∧ True := dkl_ok (c := cX11_honestly) [(.aload_n 0, 1), (.aload_n 0, 1), (.getfield 42, 3), (.getfield 360, 3), (.invokevirtual 156, 3), (.ireturn, 1)] 26 (by decide +kernel)
theorem dX11_honestly_26 : decode cX11_honestly 26 = .ok (.aload_n 0, 1) := eX11_honestly_26.1
theorem dX11_honestly_27 : decode cX11_honestly 27 = .ok (.aload_n 0, 1) := eX11_honestly_26.2.1
theorem dX11_honestly_28 : decode cX11_honestly 28 = .ok (.getfield 42, 3) := eX11_honestly_26.2.2.1
theorem dX11_honestly_31 : decode cX11_honestly 31 = .ok (.getfield 360, 3) := eX11_honestly_26.2.2.2.1
theorem dX11_honestly_34 : decode cX11_honestly 34 = .ok (.invokevirtual 156, 3) := eX11_honestly_26.2.2.2.2.1
theorem dX11_honestly_37 : decode cX11_honestly 37 = .ok (.ireturn, 1) := eX11_honestly_26.2.2.2.2.2.1
theorem eX11_rid_0 : decode cX11_rid 0 = .ok (.aload_n 0, 1) ∧ decode cX11_rid 1 = .ok (.iload_n 1, 1) ∧ decode cX11_rid 2 = .ok (.invokevirtual 219, 3) ∧ decode cX11_rid 5 = .ok (.ifCond .ne 9, 3) ∧ decode cX11_rid 8 = .ok (.aload_n 0, 1) ∧ decode cX11_rid 9 = .ok (.iconst 2, 1) ∧ decode cX11_rid 10 = .ok (.invokevirtual 109, 3) ∧ decode cX11_rid 13 = .ok (.ireturn, 1) ∧ True := dkl_ok (c := cX11_rid) [(.aload_n 0, 1), (.iload_n 1, 1), (.invokevirtual 219, 3), (.ifCond .ne 9, 3), (.aload_n 0, 1), (.iconst 2, 1), (.invokevirtual 109, 3), (.ireturn, 1)] 0 (by decide +kernel)
theorem dX11_rid_0 : decode cX11_rid 0 = .ok (.aload_n 0, 1) := eX11_rid_0.1
theorem dX11_rid_1 : decode cX11_rid 1 = .ok (.iload_n 1, 1) := eX11_rid_0.2.1
theorem dX11_rid_2 : decode cX11_rid 2 = .ok (.invokevirtual 219, 3) := eX11_rid_0.2.2.1
theorem dX11_rid_5 : decode cX11_rid 5 = .ok (.ifCond .ne 9, 3) := eX11_rid_0.2.2.2.1
theorem dX11_rid_8 : decode cX11_rid 8 = .ok (.aload_n 0, 1) := eX11_rid_0.2.2.2.2.1
theorem dX11_rid_9 : decode cX11_rid 9 = .ok (.iconst 2, 1) := eX11_rid_0.2.2.2.2.2.1
theorem dX11_rid_10 : decode cX11_rid 10 = .ok (.invokevirtual 109, 3) := eX11_rid_0.2.2.2.2.2.2.1
theorem dX11_rid_13 : decode cX11_rid 13 = .ok (.ireturn, 1) := eX11_rid_0.2.2.2.2.2.2.2.1
theorem eX11_rid_14 : decode cX11_rid 14 = .ok (.aload_n 0, 1) ∧ decode cX11_rid 15 = .ok (.getfield 42, 3) ∧ decode cX11_rid 18 = .ok (.iload_n 1, 1) ∧ decode cX11_rid 19 = .ok (.bipush 60, 2) ∧ decode cX11_rid 21 = .ok (.invokevirtual 357, 3) ∧ decode cX11_rid 24 = .ok (.aload_n 0, 1) ∧ decode cX11_rid 25 = .ok (.aload_n 0, 1) ∧ decode cX11_rid 26 = .ok (.getfield 42, 3) ∧ True := dkl_ok (c := cX11_rid) [(.aload_n 0, 1), (.getfield 42, 3), (.iload_n 1, 1), (.bipush 60, 2), (.invokevirtual 357, 3), (.aload_n 0, 1), (.aload_n 0, 1), (.getfield 42, 3)] 14 (by decide +kernel)
theorem dX11_rid_14 : decode cX11_rid 14 = .ok (.aload_n 0, 1) := eX11_rid_14.1
theorem dX11_rid_15 : decode cX11_rid 15 = .ok (.getfield 42, 3) := eX11_rid_14.2.1
theorem dX11_rid_18 : decode cX11_rid 18 = .ok (.iload_n 1, 1) := eX11_rid_14.2.2.1
theorem dX11_rid_19 : decode cX11_rid 19 = .ok (.bipush 60, 2) := eX11_rid_14.2.2.2.1
theorem dX11_rid_21 : decode cX11_rid 21 = .ok (.invokevirtual 357, 3) := eX11_rid_14.2.2.2.2.1
theorem dX11_rid_24 : decode cX11_rid 24 = .ok (.aload_n 0, 1) := eX11_rid_14.2.2.2.2.2.1
theorem dX11_rid_25 : decode cX11_rid 25 = .ok (.aload_n 0, 1) := eX11_rid_14.2.2.2.2.2.2.1
theorem dX11_rid_26 : decode cX11_rid 26 = .ok (.getfield 42, 3) := eX11_rid_14.2.2.2.2.2.2.2.1
theorem eX11_rid_29 : decode cX11_rid 29 = .ok (.getfield 363, 3) ∧ decode cX11_rid 32 = .ok (.invokevirtual 366, 3) ∧ decode cX11_rid 35 = .ok (.ireturn, 1) ∧ True := dkl_ok (c := cX11_rid) [(.getfield 363, 3), (.invokevirtual 366, 3), (.ireturn, 1)] 29 (by decide +kernel)
theorem dX11_rid_29 : decode cX11_rid 29 = .ok (.getfield 363, 3) := eX11_rid_29.1
theorem dX11_rid_32 : decode cX11_rid 32 = .ok (.invokevirtual 366, 3) := eX11_rid_29.2.1
theorem dX11_rid_35 : decode cX11_rid 35 = .ok (.ireturn, 1) := eX11_rid_29.2.2.1
theorem eX11_lastKind_0 : decode cX11_lastKind 0 = .ok (.aload_n 0, 1) ∧ decode cX11_lastKind 1 = .ok (.iload_n 1, 1) ∧ decode cX11_lastKind 2 = .ok (.invokevirtual 219, 3) ∧ decode cX11_lastKind 5 = .ok (.ifCond .ne 9, 3) ∧ decode cX11_lastKind 8 = .ok (.aload_n 0, 1) ∧ decode cX11_lastKind 9 = .ok (.iconst 2, 1) ∧ decode cX11_lastKind 10 = .ok (.invokevirtual 109, 3) ∧ decode cX11_lastKind 13 = .ok (.ireturn, 1) ∧ True := dkl_ok (c := cX11_lastKind) [(.aload_n 0, 1), (.iload_n 1, 1), (.invokevirtual 219, 3), (.ifCond .ne 9, 3), (.aload_n 0, 1), (.iconst 2, 1), (.invokevirtual 109, 3), (.ireturn, 1)] 0 (by decide +kernel)
theorem dX11_lastKind_0 : decode cX11_lastKind 0 = .ok (.aload_n 0, 1) := eX11_lastKind_0.1
theorem dX11_lastKind_1 : decode cX11_lastKind 1 = .ok (.iload_n 1, 1) := eX11_lastKind_0.2.1
theorem dX11_lastKind_2 : decode cX11_lastKind 2 = .ok (.invokevirtual 219, 3) := eX11_lastKind_0.2.2.1
theorem dX11_lastKind_5 : decode cX11_lastKind 5 = .ok (.ifCond .ne 9, 3) := eX11_lastKind_0.2.2.2.1
theorem dX11_lastKind_8 : decode cX11_lastKind 8 = .ok (.aload_n 0, 1) := eX11_lastKind_0.2.2.2.2.1
theorem dX11_lastKind_9 : decode cX11_lastKind 9 = .ok (.iconst 2, 1) := eX11_lastKind_0.2.2.2.2.2.1
theorem dX11_lastKind_10 : decode cX11_lastKind 10 = .ok (.invokevirtual 109, 3) := eX11_lastKind_0.2.2.2.2.2.2.1
theorem dX11_lastKind_13 : decode cX11_lastKind 13 = .ok (.ireturn, 1) := eX11_lastKind_0.2.2.2.2.2.2.2.1
theorem eX11_lastKind_14 : decode cX11_lastKind 14 = .ok (.aload_n 0, 1) ∧ decode cX11_lastKind 15 = .ok (.getfield 42, 3) ∧ decode cX11_lastKind 18 = .ok (.iload_n 1, 1) ∧ decode cX11_lastKind 19 = .ok (.bipush 60, 2) ∧ decode cX11_lastKind 21 = .ok (.invokevirtual 357, 3) ∧ decode cX11_lastKind 24 = .ok (.aload_n 0, 1) ∧ decode cX11_lastKind 25 = .ok (.aload_n 0, 1) ∧ decode cX11_lastKind 26 = .ok (.getfield 42, 3) ∧ True := dkl_ok (c := cX11_lastKind) [(.aload_n 0, 1), (.getfield 42, 3), (.iload_n 1, 1), (.bipush 60, 2), (.invokevirtual 357, 3), (.aload_n 0, 1), (.aload_n 0, 1), (.getfield 42, 3)] 14 (by decide +kernel)
theorem dX11_lastKind_14 : decode cX11_lastKind 14 = .ok (.aload_n 0, 1) := eX11_lastKind_14.1
theorem dX11_lastKind_15 : decode cX11_lastKind 15 = .ok (.getfield 42, 3) := eX11_lastKind_14.2.1
theorem dX11_lastKind_18 : decode cX11_lastKind 18 = .ok (.iload_n 1, 1) := eX11_lastKind_14.2.2.1
theorem dX11_lastKind_19 : decode cX11_lastKind 19 = .ok (.bipush 60, 2) := eX11_lastKind_14.2.2.2.1
theorem dX11_lastKind_21 : decode cX11_lastKind 21 = .ok (.invokevirtual 357, 3) := eX11_lastKind_14.2.2.2.2.1
theorem dX11_lastKind_24 : decode cX11_lastKind 24 = .ok (.aload_n 0, 1) := eX11_lastKind_14.2.2.2.2.2.1
theorem dX11_lastKind_25 : decode cX11_lastKind 25 = .ok (.aload_n 0, 1) := eX11_lastKind_14.2.2.2.2.2.2.1
theorem dX11_lastKind_26 : decode cX11_lastKind 26 = .ok (.getfield 42, 3) := eX11_lastKind_14.2.2.2.2.2.2.2.1
theorem eX11_lastKind_29 : decode cX11_lastKind 29 = .ok (.getfield 363, 3) ∧ decode cX11_lastKind 32 = .ok (.iconst (-1), 1) ∧ decode cX11_lastKind 33 = .ok (.if_icmp .ne 7, 3) ∧ decode cX11_lastKind 36 = .ok (.iconst (-1), 1) ∧ decode cX11_lastKind 37 = .ok (.goto 10, 3) ∧ decode cX11_lastKind 40 = .ok (.aload_n 0, 1) ∧ decode cX11_lastKind 41 = .ok (.getfield 42, 3) ∧ decode cX11_lastKind 44 = .ok (.getfield 369, 3) ∧ True := dkl_ok (c := cX11_lastKind) [(.getfield 363, 3), (.iconst (-1), 1), (.if_icmp .ne 7, 3), (.iconst (-1), 1), (.goto 10, 3), (.aload_n 0, 1), (.getfield 42, 3), (.getfield 369, 3)] 29 (by decide +kernel)
theorem dX11_lastKind_29 : decode cX11_lastKind 29 = .ok (.getfield 363, 3) := eX11_lastKind_29.1
theorem dX11_lastKind_32 : decode cX11_lastKind 32 = .ok (.iconst (-1), 1) := eX11_lastKind_29.2.1
theorem dX11_lastKind_33 : decode cX11_lastKind 33 = .ok (.if_icmp .ne 7, 3) := eX11_lastKind_29.2.2.1
theorem dX11_lastKind_36 : decode cX11_lastKind 36 = .ok (.iconst (-1), 1) := eX11_lastKind_29.2.2.2.1
theorem dX11_lastKind_37 : decode cX11_lastKind 37 = .ok (.goto 10, 3) := eX11_lastKind_29.2.2.2.2.1
theorem dX11_lastKind_40 : decode cX11_lastKind 40 = .ok (.aload_n 0, 1) := eX11_lastKind_29.2.2.2.2.2.1
theorem dX11_lastKind_41 : decode cX11_lastKind 41 = .ok (.getfield 42, 3) := eX11_lastKind_29.2.2.2.2.2.2.1
theorem dX11_lastKind_44 : decode cX11_lastKind 44 = .ok (.getfield 369, 3) := eX11_lastKind_29.2.2.2.2.2.2.2.1
theorem eX11_lastKind_47 : decode cX11_lastKind 47 = .ok (.invokevirtual 366, 3) ∧ decode cX11_lastKind 50 = .ok (.ireturn, 1) ∧ True := dkl_ok (c := cX11_lastKind) [(.invokevirtual 366, 3), (.ireturn, 1)] 47 (by decide +kernel)
theorem dX11_lastKind_47 : decode cX11_lastKind 47 = .ok (.invokevirtual 366, 3) := eX11_lastKind_47.1
theorem dX11_lastKind_50 : decode cX11_lastKind 50 = .ok (.ireturn, 1) := eX11_lastKind_47.2.1
theorem eX11_mustLie_0 : decode cX11_mustLie 0 = .ok (.aload_n 0, 1) ∧ decode cX11_mustLie 1 = .ok (.iload_n 1, 1) ∧ decode cX11_mustLie 2 = .ok (.invokevirtual 219, 3) ∧ decode cX11_mustLie 5 = .ok (.ifCond .ne 9, 3) ∧ decode cX11_mustLie 8 = .ok (.aload_n 0, 1) ∧ decode cX11_mustLie 9 = .ok (.iconst 2, 1) ∧ decode cX11_mustLie 10 = .ok (.invokevirtual 109, 3) ∧ decode cX11_mustLie 13 = .ok (.ireturn, 1) ∧ True := dkl_ok (c := cX11_mustLie) [(.aload_n 0, 1), (.iload_n 1, 1), (.invokevirtual 219, 3), (.ifCond .ne 9, 3), (.aload_n 0, 1), (.iconst 2, 1), (.invokevirtual 109, 3), (.ireturn, 1)] 0 (by decide +kernel)
theorem dX11_mustLie_0 : decode cX11_mustLie 0 = .ok (.aload_n 0, 1) := eX11_mustLie_0.1
theorem dX11_mustLie_1 : decode cX11_mustLie 1 = .ok (.iload_n 1, 1) := eX11_mustLie_0.2.1
theorem dX11_mustLie_2 : decode cX11_mustLie 2 = .ok (.invokevirtual 219, 3) := eX11_mustLie_0.2.2.1
theorem dX11_mustLie_5 : decode cX11_mustLie 5 = .ok (.ifCond .ne 9, 3) := eX11_mustLie_0.2.2.2.1
theorem dX11_mustLie_8 : decode cX11_mustLie 8 = .ok (.aload_n 0, 1) := eX11_mustLie_0.2.2.2.2.1
theorem dX11_mustLie_9 : decode cX11_mustLie 9 = .ok (.iconst 2, 1) := eX11_mustLie_0.2.2.2.2.2.1
theorem dX11_mustLie_10 : decode cX11_mustLie 10 = .ok (.invokevirtual 109, 3) := eX11_mustLie_0.2.2.2.2.2.2.1
theorem dX11_mustLie_13 : decode cX11_mustLie 13 = .ok (.ireturn, 1) := eX11_mustLie_0.2.2.2.2.2.2.2.1
theorem eX11_mustLie_14 : decode cX11_mustLie 14 = .ok (.aload_n 0, 1) ∧ decode cX11_mustLie 15 = .ok (.getfield 42, 3) ∧ decode cX11_mustLie 18 = .ok (.iload_n 1, 1) ∧ decode cX11_mustLie 19 = .ok (.bipush 60, 2) ∧ decode cX11_mustLie 21 = .ok (.invokevirtual 357, 3) ∧ decode cX11_mustLie 24 = .ok (.aload_n 0, 1) ∧ decode cX11_mustLie 25 = .ok (.aload_n 0, 1) ∧ decode cX11_mustLie 26 = .ok (.getfield 42, 3) ∧ True := dkl_ok (c := cX11_mustLie) [(.aload_n 0, 1), (.getfield 42, 3), (.iload_n 1, 1), (.bipush 60, 2), (.invokevirtual 357, 3), (.aload_n 0, 1), (.aload_n 0, 1), (.getfield 42, 3)] 14 (by decide +kernel)
theorem dX11_mustLie_14 : decode cX11_mustLie 14 = .ok (.aload_n 0, 1) := eX11_mustLie_14.1
theorem dX11_mustLie_15 : decode cX11_mustLie 15 = .ok (.getfield 42, 3) := eX11_mustLie_14.2.1
theorem dX11_mustLie_18 : decode cX11_mustLie 18 = .ok (.iload_n 1, 1) := eX11_mustLie_14.2.2.1
theorem dX11_mustLie_19 : decode cX11_mustLie 19 = .ok (.bipush 60, 2) := eX11_mustLie_14.2.2.2.1
theorem dX11_mustLie_21 : decode cX11_mustLie 21 = .ok (.invokevirtual 357, 3) := eX11_mustLie_14.2.2.2.2.1
theorem dX11_mustLie_24 : decode cX11_mustLie 24 = .ok (.aload_n 0, 1) := eX11_mustLie_14.2.2.2.2.2.1
theorem dX11_mustLie_25 : decode cX11_mustLie 25 = .ok (.aload_n 0, 1) := eX11_mustLie_14.2.2.2.2.2.2.1
theorem dX11_mustLie_26 : decode cX11_mustLie 26 = .ok (.getfield 42, 3) := eX11_mustLie_14.2.2.2.2.2.2.2.1
theorem eX11_mustLie_29 : decode cX11_mustLie 29 = .ok (.getfield 372, 3) ∧ decode cX11_mustLie 32 = .ok (.invokevirtual 366, 3) ∧ decode cX11_mustLie 35 = .ok (.ireturn, 1) ∧ True := dkl_ok (c := cX11_mustLie) [(.getfield 372, 3), (.invokevirtual 366, 3), (.ireturn, 1)] 29 (by decide +kernel)
theorem dX11_mustLie_29 : decode cX11_mustLie 29 = .ok (.getfield 372, 3) := eX11_mustLie_29.1
theorem dX11_mustLie_32 : decode cX11_mustLie 32 = .ok (.invokevirtual 366, 3) := eX11_mustLie_29.2.1
theorem dX11_mustLie_35 : decode cX11_mustLie 35 = .ok (.ireturn, 1) := eX11_mustLie_29.2.2.1
theorem eX11_soonest_0 : decode cX11_soonest 0 = .ok (.iconst (-1), 1) ∧ decode cX11_soonest 1 = .ok (.istore_n 1, 1) ∧ decode cX11_soonest 2 = .ok (.bipush 61, 2) ∧ decode cX11_soonest 4 = .ok (.istore_n 2, 1) ∧ decode cX11_soonest 5 = .ok (.iconst 0, 1) ∧ decode cX11_soonest 6 = .ok (.istore_n 3, 1) ∧ decode cX11_soonest 7 = .ok (.iload_n 3, 1) ∧ decode cX11_soonest 8 = .ok (.aload_n 0, 1) ∧ True := dkl_ok (c := cX11_soonest) [(.iconst (-1), 1), (.istore_n 1, 1), (.bipush 61, 2), (.istore_n 2, 1), (.iconst 0, 1), (.istore_n 3, 1), (.iload_n 3, 1), (.aload_n 0, 1)] 0 (by decide +kernel)
theorem dX11_soonest_0 : decode cX11_soonest 0 = .ok (.iconst (-1), 1) := eX11_soonest_0.1
theorem dX11_soonest_1 : decode cX11_soonest 1 = .ok (.istore_n 1, 1) := eX11_soonest_0.2.1
theorem dX11_soonest_2 : decode cX11_soonest 2 = .ok (.bipush 61, 2) := eX11_soonest_0.2.2.1
theorem dX11_soonest_4 : decode cX11_soonest 4 = .ok (.istore_n 2, 1) := eX11_soonest_0.2.2.2.1
theorem dX11_soonest_5 : decode cX11_soonest 5 = .ok (.iconst 0, 1) := eX11_soonest_0.2.2.2.2.1
theorem dX11_soonest_6 : decode cX11_soonest 6 = .ok (.istore_n 3, 1) := eX11_soonest_0.2.2.2.2.2.1
theorem dX11_soonest_7 : decode cX11_soonest 7 = .ok (.iload_n 3, 1) := eX11_soonest_0.2.2.2.2.2.2.1
theorem dX11_soonest_8 : decode cX11_soonest 8 = .ok (.aload_n 0, 1) := eX11_soonest_0.2.2.2.2.2.2.2.1
theorem eX11_soonest_9 : decode cX11_soonest 9 = .ok (.getfield 42, 3) ∧ decode cX11_soonest 12 = .ok (.getfield 147, 3) ∧ decode cX11_soonest 15 = .ok (.getfield 151, 3) ∧ decode cX11_soonest 18 = .ok (.if_icmp .ge 51, 3) ∧ decode cX11_soonest 21 = .ok (.aload_n 0, 1) ∧ decode cX11_soonest 22 = .ok (.getfield 42, 3) ∧ decode cX11_soonest 25 = .ok (.iload_n 3, 1) ∧ decode cX11_soonest 26 = .ok (.bipush 60, 2) ∧ True := dkl_ok (c := cX11_soonest) [(.getfield 42, 3), (.getfield 147, 3), (.getfield 151, 3), (.if_icmp .ge 51, 3), (.aload_n 0, 1), (.getfield 42, 3), (.iload_n 3, 1), (.bipush 60, 2)] 9 (by decide +kernel)
theorem dX11_soonest_9 : decode cX11_soonest 9 = .ok (.getfield 42, 3) := eX11_soonest_9.1
theorem dX11_soonest_12 : decode cX11_soonest 12 = .ok (.getfield 147, 3) := eX11_soonest_9.2.1
theorem dX11_soonest_15 : decode cX11_soonest 15 = .ok (.getfield 151, 3) := eX11_soonest_9.2.2.1
theorem dX11_soonest_18 : decode cX11_soonest 18 = .ok (.if_icmp .ge 51, 3) := eX11_soonest_9.2.2.2.1
theorem dX11_soonest_21 : decode cX11_soonest 21 = .ok (.aload_n 0, 1) := eX11_soonest_9.2.2.2.2.1
theorem dX11_soonest_22 : decode cX11_soonest 22 = .ok (.getfield 42, 3) := eX11_soonest_9.2.2.2.2.2.1
theorem dX11_soonest_25 : decode cX11_soonest 25 = .ok (.iload_n 3, 1) := eX11_soonest_9.2.2.2.2.2.2.1
theorem dX11_soonest_26 : decode cX11_soonest 26 = .ok (.bipush 60, 2) := eX11_soonest_9.2.2.2.2.2.2.2.1
theorem eX11_soonest_28 : decode cX11_soonest 28 = .ok (.invokevirtual 357, 3) ∧ decode cX11_soonest 31 = .ok (.aload_n 0, 1) ∧ decode cX11_soonest 32 = .ok (.getfield 42, 3) ∧ decode cX11_soonest 35 = .ok (.getfield 363, 3) ∧ decode cX11_soonest 38 = .ok (.iconst (-1), 1) ∧ decode cX11_soonest 39 = .ok (.if_icmp .eq 24, 3) ∧ decode cX11_soonest 42 = .ok (.aload_n 0, 1) ∧ decode cX11_soonest 43 = .ok (.getfield 42, 3) ∧ True := dkl_ok (c := cX11_soonest) [(.invokevirtual 357, 3), (.aload_n 0, 1), (.getfield 42, 3), (.getfield 363, 3), (.iconst (-1), 1), (.if_icmp .eq 24, 3), (.aload_n 0, 1), (.getfield 42, 3)] 28 (by decide +kernel)
theorem dX11_soonest_28 : decode cX11_soonest 28 = .ok (.invokevirtual 357, 3) := eX11_soonest_28.1
theorem dX11_soonest_31 : decode cX11_soonest 31 = .ok (.aload_n 0, 1) := eX11_soonest_28.2.1
theorem dX11_soonest_32 : decode cX11_soonest 32 = .ok (.getfield 42, 3) := eX11_soonest_28.2.2.1
theorem dX11_soonest_35 : decode cX11_soonest 35 = .ok (.getfield 363, 3) := eX11_soonest_28.2.2.2.1
theorem dX11_soonest_38 : decode cX11_soonest 38 = .ok (.iconst (-1), 1) := eX11_soonest_28.2.2.2.2.1
theorem dX11_soonest_39 : decode cX11_soonest 39 = .ok (.if_icmp .eq 24, 3) := eX11_soonest_28.2.2.2.2.2.1
theorem dX11_soonest_42 : decode cX11_soonest 42 = .ok (.aload_n 0, 1) := eX11_soonest_28.2.2.2.2.2.2.1
theorem dX11_soonest_43 : decode cX11_soonest 43 = .ok (.getfield 42, 3) := eX11_soonest_28.2.2.2.2.2.2.2.1
theorem eX11_soonest_46 : decode cX11_soonest 46 = .ok (.getfield 363, 3) ∧ decode cX11_soonest 49 = .ok (.iload_n 2, 1) ∧ decode cX11_soonest 50 = .ok (.if_icmp .ge 13, 3) ∧ decode cX11_soonest 53 = .ok (.aload_n 0, 1) ∧ decode cX11_soonest 54 = .ok (.getfield 42, 3) ∧ decode cX11_soonest 57 = .ok (.getfield 363, 3) ∧ decode cX11_soonest 60 = .ok (.istore_n 2, 1) ∧ decode cX11_soonest 61 = .ok (.iload_n 3, 1) ∧ True := dkl_ok (c := cX11_soonest) [(.getfield 363, 3), (.iload_n 2, 1), (.if_icmp .ge 13, 3), (.aload_n 0, 1), (.getfield 42, 3), (.getfield 363, 3), (.istore_n 2, 1), (.iload_n 3, 1)] 46 (by decide +kernel)
theorem dX11_soonest_46 : decode cX11_soonest 46 = .ok (.getfield 363, 3) := eX11_soonest_46.1
theorem dX11_soonest_49 : decode cX11_soonest 49 = .ok (.iload_n 2, 1) := eX11_soonest_46.2.1
theorem dX11_soonest_50 : decode cX11_soonest 50 = .ok (.if_icmp .ge 13, 3) := eX11_soonest_46.2.2.1
theorem dX11_soonest_53 : decode cX11_soonest 53 = .ok (.aload_n 0, 1) := eX11_soonest_46.2.2.2.1
theorem dX11_soonest_54 : decode cX11_soonest 54 = .ok (.getfield 42, 3) := eX11_soonest_46.2.2.2.2.1
theorem dX11_soonest_57 : decode cX11_soonest 57 = .ok (.getfield 363, 3) := eX11_soonest_46.2.2.2.2.2.1
theorem dX11_soonest_60 : decode cX11_soonest 60 = .ok (.istore_n 2, 1) := eX11_soonest_46.2.2.2.2.2.2.1
theorem dX11_soonest_61 : decode cX11_soonest 61 = .ok (.iload_n 3, 1) := eX11_soonest_46.2.2.2.2.2.2.2.1
theorem eX11_soonest_62 : decode cX11_soonest 62 = .ok (.istore_n 1, 1) ∧ decode cX11_soonest 63 = .ok (.iinc 3 1, 3) ∧ decode cX11_soonest 66 = .ok (.goto (-59), 3) ∧ decode cX11_soonest 69 = .ok (.aload_n 0, 1) ∧ decode cX11_soonest 70 = .ok (.iload_n 1, 1) ∧ decode cX11_soonest 71 = .ok (.invokevirtual 366, 3) ∧ decode cX11_soonest 74 = .ok (.ireturn, 1) ∧ True := dkl_ok (c := cX11_soonest) [(.istore_n 1, 1), (.iinc 3 1, 3), (.goto (-59), 3), (.aload_n 0, 1), (.iload_n 1, 1), (.invokevirtual 366, 3), (.ireturn, 1)] 62 (by decide +kernel)
theorem dX11_soonest_62 : decode cX11_soonest 62 = .ok (.istore_n 1, 1) := eX11_soonest_62.1
theorem dX11_soonest_63 : decode cX11_soonest 63 = .ok (.iinc 3 1, 3) := eX11_soonest_62.2.1
theorem dX11_soonest_66 : decode cX11_soonest 66 = .ok (.goto (-59), 3) := eX11_soonest_62.2.2.1
theorem dX11_soonest_69 : decode cX11_soonest 69 = .ok (.aload_n 0, 1) := eX11_soonest_62.2.2.2.1
theorem dX11_soonest_70 : decode cX11_soonest 70 = .ok (.iload_n 1, 1) := eX11_soonest_62.2.2.2.2.1
theorem dX11_soonest_71 : decode cX11_soonest 71 = .ok (.invokevirtual 366, 3) := eX11_soonest_62.2.2.2.2.2.1
theorem dX11_soonest_74 : decode cX11_soonest 74 = .ok (.ireturn, 1) := eX11_soonest_62.2.2.2.2.2.2.1
theorem eX11_forecastStatus_0 : decode cX11_forecastStatus 0 = .ok (.aload_n 0, 1) ∧ decode cX11_forecastStatus 1 = .ok (.iload_n 1, 1) ∧ decode cX11_forecastStatus 2 = .ok (.invokevirtual 219, 3) ∧ decode cX11_forecastStatus 5 = .ok (.ifCond .ne 5, 3) ∧ decode cX11_forecastStatus 8 = .ok (.iconst 2, 1) ∧ decode cX11_forecastStatus 9 = .ok (.ireturn, 1) ∧ decode cX11_forecastStatus 10 = .ok (.iload_n 2, 1) ∧ decode cX11_forecastStatus 11 = .ok (.ifCond .lt 9, 3) ∧ True := dkl_ok (c := cX11_forecastStatus) [(.aload_n 0, 1), (.iload_n 1, 1), (.invokevirtual 219, 3), (.ifCond .ne 5, 3), (.iconst 2, 1), (.ireturn, 1), (.iload_n 2, 1), (.ifCond .lt 9, 3)] 0 (by decide +kernel)
theorem dX11_forecastStatus_0 : decode cX11_forecastStatus 0 = .ok (.aload_n 0, 1) := eX11_forecastStatus_0.1
theorem dX11_forecastStatus_1 : decode cX11_forecastStatus 1 = .ok (.iload_n 1, 1) := eX11_forecastStatus_0.2.1
theorem dX11_forecastStatus_2 : decode cX11_forecastStatus 2 = .ok (.invokevirtual 219, 3) := eX11_forecastStatus_0.2.2.1
theorem dX11_forecastStatus_5 : decode cX11_forecastStatus 5 = .ok (.ifCond .ne 5, 3) := eX11_forecastStatus_0.2.2.2.1
theorem dX11_forecastStatus_8 : decode cX11_forecastStatus 8 = .ok (.iconst 2, 1) := eX11_forecastStatus_0.2.2.2.2.1
theorem dX11_forecastStatus_9 : decode cX11_forecastStatus 9 = .ok (.ireturn, 1) := eX11_forecastStatus_0.2.2.2.2.2.1
theorem dX11_forecastStatus_10 : decode cX11_forecastStatus 10 = .ok (.iload_n 2, 1) := eX11_forecastStatus_0.2.2.2.2.2.2.1
theorem dX11_forecastStatus_11 : decode cX11_forecastStatus 11 = .ok (.ifCond .lt 9, 3) := eX11_forecastStatus_0.2.2.2.2.2.2.2.1
theorem eX11_forecastStatus_14 : decode cX11_forecastStatus 14 = .ok (.iload_n 2, 1) ∧ decode cX11_forecastStatus 15 = .ok (.bipush 60, 2) ∧ decode cX11_forecastStatus 17 = .ok (.if_icmp .le 7, 3) ∧ decode cX11_forecastStatus 20 = .ok (.iconst 5, 1) ∧ decode cX11_forecastStatus 21 = .ok (.goto 4, 3) ∧ decode cX11_forecastStatus 24 = .ok (.iconst 0, 1) ∧ decode cX11_forecastStatus 25 = .ok (.ireturn, 1) ∧ True := dkl_ok (c := cX11_forecastStatus) [(.iload_n 2, 1), (.bipush 60, 2), (.if_icmp .le 7, 3), (.iconst 5, 1), (.goto 4, 3), (.iconst 0, 1), (.ireturn, 1)] 14 (by decide +kernel)
theorem dX11_forecastStatus_14 : decode cX11_forecastStatus 14 = .ok (.iload_n 2, 1) := eX11_forecastStatus_14.1
theorem dX11_forecastStatus_15 : decode cX11_forecastStatus 15 = .ok (.bipush 60, 2) := eX11_forecastStatus_14.2.1
theorem dX11_forecastStatus_17 : decode cX11_forecastStatus 17 = .ok (.if_icmp .le 7, 3) := eX11_forecastStatus_14.2.2.1
theorem dX11_forecastStatus_20 : decode cX11_forecastStatus 20 = .ok (.iconst 5, 1) := eX11_forecastStatus_14.2.2.2.1
theorem dX11_forecastStatus_21 : decode cX11_forecastStatus 21 = .ok (.goto 4, 3) := eX11_forecastStatus_14.2.2.2.2.1
theorem dX11_forecastStatus_24 : decode cX11_forecastStatus 24 = .ok (.iconst 0, 1) := eX11_forecastStatus_14.2.2.2.2.2.1
theorem dX11_forecastStatus_25 : decode cX11_forecastStatus 25 = .ok (.ireturn, 1) := eX11_forecastStatus_14.2.2.2.2.2.2.1
theorem eX11_best_0 : decode cX11_best 0 = .ok (.iload_n 1, 1) ∧ decode cX11_best 1 = .ok (.invokestatic 302, 3) ∧ decode cX11_best 4 = .ok (.ifCond .eq 12, 3) ∧ decode cX11_best 7 = .ok (.iload_n 2, 1) ∧ decode cX11_best 8 = .ok (.ifCond .lt 8, 3) ∧ decode cX11_best 11 = .ok (.iload_n 2, 1) ∧ decode cX11_best 12 = .ok (.iconst 1, 1) ∧ decode cX11_best 13 = .ok (.if_icmp .le 9, 3) ∧ True := dkl_ok (c := cX11_best) [(.iload_n 1, 1), (.invokestatic 302, 3), (.ifCond .eq 12, 3), (.iload_n 2, 1), (.ifCond .lt 8, 3), (.iload_n 2, 1), (.iconst 1, 1), (.if_icmp .le 9, 3)] 0 (by decide +kernel)
theorem dX11_best_0 : decode cX11_best 0 = .ok (.iload_n 1, 1) := eX11_best_0.1
theorem dX11_best_1 : decode cX11_best 1 = .ok (.invokestatic 302, 3) := eX11_best_0.2.1
theorem dX11_best_4 : decode cX11_best 4 = .ok (.ifCond .eq 12, 3) := eX11_best_0.2.2.1
theorem dX11_best_7 : decode cX11_best 7 = .ok (.iload_n 2, 1) := eX11_best_0.2.2.2.1
theorem dX11_best_8 : decode cX11_best 8 = .ok (.ifCond .lt 8, 3) := eX11_best_0.2.2.2.2.1
theorem dX11_best_11 : decode cX11_best 11 = .ok (.iload_n 2, 1) := eX11_best_0.2.2.2.2.2.1
theorem dX11_best_12 : decode cX11_best 12 = .ok (.iconst 1, 1) := eX11_best_0.2.2.2.2.2.2.1
theorem dX11_best_13 : decode cX11_best 13 = .ok (.if_icmp .le 9, 3) := eX11_best_0.2.2.2.2.2.2.2.1
theorem eX11_best_16 : decode cX11_best 16 = .ok (.aload_n 0, 1) ∧ decode cX11_best 17 = .ok (.iconst 5, 1) ∧ decode cX11_best 18 = .ok (.invokevirtual 109, 3) ∧ decode cX11_best 21 = .ok (.ireturn, 1) ∧ decode cX11_best 22 = .ok (.aload_n 0, 1) ∧ decode cX11_best 23 = .ok (.getfield 42, 3) ∧ decode cX11_best 26 = .ok (.getfield 147, 3) ∧ decode cX11_best 29 = .ok (.getfield 151, 3) ∧ True := dkl_ok (c := cX11_best) [(.aload_n 0, 1), (.iconst 5, 1), (.invokevirtual 109, 3), (.ireturn, 1), (.aload_n 0, 1), (.getfield 42, 3), (.getfield 147, 3), (.getfield 151, 3)] 16 (by decide +kernel)
theorem dX11_best_16 : decode cX11_best 16 = .ok (.aload_n 0, 1) := eX11_best_16.1
theorem dX11_best_17 : decode cX11_best 17 = .ok (.iconst 5, 1) := eX11_best_16.2.1
theorem dX11_best_18 : decode cX11_best 18 = .ok (.invokevirtual 109, 3) := eX11_best_16.2.2.1
theorem dX11_best_21 : decode cX11_best 21 = .ok (.ireturn, 1) := eX11_best_16.2.2.2.1
theorem dX11_best_22 : decode cX11_best 22 = .ok (.aload_n 0, 1) := eX11_best_16.2.2.2.2.1
theorem dX11_best_23 : decode cX11_best 23 = .ok (.getfield 42, 3) := eX11_best_16.2.2.2.2.2.1
theorem dX11_best_26 : decode cX11_best 26 = .ok (.getfield 147, 3) := eX11_best_16.2.2.2.2.2.2.1
theorem dX11_best_29 : decode cX11_best 29 = .ok (.getfield 151, 3) := eX11_best_16.2.2.2.2.2.2.2.1
theorem eX11_best_32 : decode cX11_best 32 = .ok (.ifCond .ne 10, 3) ∧ decode cX11_best 35 = .ok (.aload_n 0, 1) ∧ decode cX11_best 36 = .ok (.bipush 8, 2) ∧ decode cX11_best 38 = .ok (.invokevirtual 109, 3) ∧ decode cX11_best 41 = .ok (.ireturn, 1) ∧ decode cX11_best 42 = .ok (.aload_n 0, 1) ∧ decode cX11_best 43 = .ok (.getfield 42, 3) ∧ decode cX11_best 46 = .ok (.getfield 222, 3) ∧ True := dkl_ok (c := cX11_best) [(.ifCond .ne 10, 3), (.aload_n 0, 1), (.bipush 8, 2), (.invokevirtual 109, 3), (.ireturn, 1), (.aload_n 0, 1), (.getfield 42, 3), (.getfield 222, 3)] 32 (by decide +kernel)
theorem dX11_best_32 : decode cX11_best 32 = .ok (.ifCond .ne 10, 3) := eX11_best_32.1
theorem dX11_best_35 : decode cX11_best 35 = .ok (.aload_n 0, 1) := eX11_best_32.2.1
theorem dX11_best_36 : decode cX11_best 36 = .ok (.bipush 8, 2) := eX11_best_32.2.2.1
theorem dX11_best_38 : decode cX11_best 38 = .ok (.invokevirtual 109, 3) := eX11_best_32.2.2.2.1
theorem dX11_best_41 : decode cX11_best 41 = .ok (.ireturn, 1) := eX11_best_32.2.2.2.2.1
theorem dX11_best_42 : decode cX11_best 42 = .ok (.aload_n 0, 1) := eX11_best_32.2.2.2.2.2.1
theorem dX11_best_43 : decode cX11_best 43 = .ok (.getfield 42, 3) := eX11_best_32.2.2.2.2.2.2.1
theorem dX11_best_46 : decode cX11_best 46 = .ok (.getfield 222, 3) := eX11_best_32.2.2.2.2.2.2.2.1
theorem eX11_best_49 : decode cX11_best 49 = .ok (.getfield 239, 3) ∧ decode cX11_best 52 = .ok (.aload_n 0, 1) ∧ decode cX11_best 53 = .ok (.getfield 42, 3) ∧ decode cX11_best 56 = .ok (.getfield 198, 3) ∧ decode cX11_best 59 = .ok (.invokevirtual 232, 3) ∧ decode cX11_best 62 = .ok (.istore_n 3, 1) ∧ decode cX11_best 63 = .ok (.aload_n 0, 1) ∧ decode cX11_best 64 = .ok (.getfield 42, 3) ∧ True := dkl_ok (c := cX11_best) [(.getfield 239, 3), (.aload_n 0, 1), (.getfield 42, 3), (.getfield 198, 3), (.invokevirtual 232, 3), (.istore_n 3, 1), (.aload_n 0, 1), (.getfield 42, 3)] 49 (by decide +kernel)
theorem dX11_best_49 : decode cX11_best 49 = .ok (.getfield 239, 3) := eX11_best_49.1
theorem dX11_best_52 : decode cX11_best 52 = .ok (.aload_n 0, 1) := eX11_best_49.2.1
theorem dX11_best_53 : decode cX11_best 53 = .ok (.getfield 42, 3) := eX11_best_49.2.2.1
theorem dX11_best_56 : decode cX11_best 56 = .ok (.getfield 198, 3) := eX11_best_49.2.2.2.1
theorem dX11_best_59 : decode cX11_best 59 = .ok (.invokevirtual 232, 3) := eX11_best_49.2.2.2.2.1
theorem dX11_best_62 : decode cX11_best 62 = .ok (.istore_n 3, 1) := eX11_best_49.2.2.2.2.2.1
theorem dX11_best_63 : decode cX11_best 63 = .ok (.aload_n 0, 1) := eX11_best_49.2.2.2.2.2.2.1
theorem dX11_best_64 : decode cX11_best 64 = .ok (.getfield 42, 3) := eX11_best_49.2.2.2.2.2.2.2.1
theorem eX11_best_67 : decode cX11_best 67 = .ok (.getfield 210, 3) ∧ decode cX11_best 70 = .ok (.ifCond .ne 18, 3) ∧ decode cX11_best 73 = .ok (.aload_n 0, 1) ∧ decode cX11_best 74 = .ok (.getfield 42, 3) ∧ decode cX11_best 77 = .ok (.getfield 213, 3) ∧ decode cX11_best 80 = .ok (.iconst (-1), 1) ∧ decode cX11_best 81 = .ok (.if_icmp .ne 7, 3) ∧ decode cX11_best 84 = .ok (.iload_n 3, 1) ∧ True := dkl_ok (c := cX11_best) [(.getfield 210, 3), (.ifCond .ne 18, 3), (.aload_n 0, 1), (.getfield 42, 3), (.getfield 213, 3), (.iconst (-1), 1), (.if_icmp .ne 7, 3), (.iload_n 3, 1)] 67 (by decide +kernel)
theorem dX11_best_67 : decode cX11_best 67 = .ok (.getfield 210, 3) := eX11_best_67.1
theorem dX11_best_70 : decode cX11_best 70 = .ok (.ifCond .ne 18, 3) := eX11_best_67.2.1
theorem dX11_best_73 : decode cX11_best 73 = .ok (.aload_n 0, 1) := eX11_best_67.2.2.1
theorem dX11_best_74 : decode cX11_best 74 = .ok (.getfield 42, 3) := eX11_best_67.2.2.2.1
theorem dX11_best_77 : decode cX11_best 77 = .ok (.getfield 213, 3) := eX11_best_67.2.2.2.2.1
theorem dX11_best_80 : decode cX11_best 80 = .ok (.iconst (-1), 1) := eX11_best_67.2.2.2.2.2.1
theorem dX11_best_81 : decode cX11_best 81 = .ok (.if_icmp .ne 7, 3) := eX11_best_67.2.2.2.2.2.2.1
theorem dX11_best_84 : decode cX11_best 84 = .ok (.iload_n 3, 1) := eX11_best_67.2.2.2.2.2.2.2.1
theorem eX11_best_85 : decode cX11_best 85 = .ok (.ifCond .ne 10, 3) ∧ decode cX11_best 88 = .ok (.aload_n 0, 1) ∧ decode cX11_best 89 = .ok (.bipush 9, 2) ∧ decode cX11_best 91 = .ok (.invokevirtual 109, 3) ∧ decode cX11_best 94 = .ok (.ireturn, 1) ∧ decode cX11_best 95 = .ok (.aload_n 0, 1) ∧ decode cX11_best 96 = .ok (.getfield 42, 3) ∧ decode cX11_best 99 = .ok (.getfield 222, 3) ∧ True := dkl_ok (c := cX11_best) [(.ifCond .ne 10, 3), (.aload_n 0, 1), (.bipush 9, 2), (.invokevirtual 109, 3), (.ireturn, 1), (.aload_n 0, 1), (.getfield 42, 3), (.getfield 222, 3)] 85 (by decide +kernel)
theorem dX11_best_85 : decode cX11_best 85 = .ok (.ifCond .ne 10, 3) := eX11_best_85.1
theorem dX11_best_88 : decode cX11_best 88 = .ok (.aload_n 0, 1) := eX11_best_85.2.1
theorem dX11_best_89 : decode cX11_best 89 = .ok (.bipush 9, 2) := eX11_best_85.2.2.1
theorem dX11_best_91 : decode cX11_best 91 = .ok (.invokevirtual 109, 3) := eX11_best_85.2.2.2.1
theorem dX11_best_94 : decode cX11_best 94 = .ok (.ireturn, 1) := eX11_best_85.2.2.2.2.1
theorem dX11_best_95 : decode cX11_best 95 = .ok (.aload_n 0, 1) := eX11_best_85.2.2.2.2.2.1
theorem dX11_best_96 : decode cX11_best 96 = .ok (.getfield 42, 3) := eX11_best_85.2.2.2.2.2.2.1
theorem dX11_best_99 : decode cX11_best 99 = .ok (.getfield 222, 3) := eX11_best_85.2.2.2.2.2.2.2.1
theorem eX11_best_102 : decode cX11_best 102 = .ok (.aload_n 0, 1) ∧ decode cX11_best 103 = .ok (.getfield 42, 3) ∧ decode cX11_best 106 = .ok (.getfield 198, 3) ∧ decode cX11_best 109 = .ok (.aload_n 0, 1) ∧ decode cX11_best 110 = .ok (.getfield 42, 3) ∧ decode cX11_best 113 = .ok (.getfield 195, 3) ∧ decode cX11_best 116 = .ok (.invokevirtual 253, 3) ∧ decode cX11_best 119 = .ok (.istore 4, 2) ∧ True := dkl_ok (c := cX11_best) [(.aload_n 0, 1), (.getfield 42, 3), (.getfield 198, 3), (.aload_n 0, 1), (.getfield 42, 3), (.getfield 195, 3), (.invokevirtual 253, 3), (.istore 4, 2)] 102 (by decide +kernel)
theorem dX11_best_102 : decode cX11_best 102 = .ok (.aload_n 0, 1) := eX11_best_102.1
theorem dX11_best_103 : decode cX11_best 103 = .ok (.getfield 42, 3) := eX11_best_102.2.1
theorem dX11_best_106 : decode cX11_best 106 = .ok (.getfield 198, 3) := eX11_best_102.2.2.1
theorem dX11_best_109 : decode cX11_best 109 = .ok (.aload_n 0, 1) := eX11_best_102.2.2.2.1
theorem dX11_best_110 : decode cX11_best 110 = .ok (.getfield 42, 3) := eX11_best_102.2.2.2.2.1
theorem dX11_best_113 : decode cX11_best 113 = .ok (.getfield 195, 3) := eX11_best_102.2.2.2.2.2.1
theorem dX11_best_116 : decode cX11_best 116 = .ok (.invokevirtual 253, 3) := eX11_best_102.2.2.2.2.2.2.1
theorem dX11_best_119 : decode cX11_best 119 = .ok (.istore 4, 2) := eX11_best_102.2.2.2.2.2.2.2.1
theorem eX11_best_121 : decode cX11_best 121 = .ok (.iconst (-1), 1) ∧ decode cX11_best 122 = .ok (.istore 5, 2) ∧ decode cX11_best 124 = .ok (.iconst (-1), 1) ∧ decode cX11_best 125 = .ok (.istore 6, 2) ∧ decode cX11_best 127 = .ok (.iconst (-1), 1) ∧ decode cX11_best 128 = .ok (.istore 7, 2) ∧ decode cX11_best 130 = .ok (.iconst 0, 1) ∧ decode cX11_best 131 = .ok (.istore 8, 2) ∧ True := dkl_ok (c := cX11_best) [(.iconst (-1), 1), (.istore 5, 2), (.iconst (-1), 1), (.istore 6, 2), (.iconst (-1), 1), (.istore 7, 2), (.iconst 0, 1), (.istore 8, 2)] 121 (by decide +kernel)
theorem dX11_best_121 : decode cX11_best 121 = .ok (.iconst (-1), 1) := eX11_best_121.1
theorem dX11_best_122 : decode cX11_best 122 = .ok (.istore 5, 2) := eX11_best_121.2.1
theorem dX11_best_124 : decode cX11_best 124 = .ok (.iconst (-1), 1) := eX11_best_121.2.2.1
theorem dX11_best_125 : decode cX11_best 125 = .ok (.istore 6, 2) := eX11_best_121.2.2.2.1
theorem dX11_best_127 : decode cX11_best 127 = .ok (.iconst (-1), 1) := eX11_best_121.2.2.2.2.1
theorem dX11_best_128 : decode cX11_best 128 = .ok (.istore 7, 2) := eX11_best_121.2.2.2.2.2.1
theorem dX11_best_130 : decode cX11_best 130 = .ok (.iconst 0, 1) := eX11_best_121.2.2.2.2.2.2.1
theorem dX11_best_131 : decode cX11_best 131 = .ok (.istore 8, 2) := eX11_best_121.2.2.2.2.2.2.2.1
theorem eX11_best_133 : decode cX11_best 133 = .ok (.iload 8, 2) ∧ decode cX11_best 135 = .ok (.aload_n 0, 1) ∧ decode cX11_best 136 = .ok (.getfield 42, 3) ∧ decode cX11_best 139 = .ok (.getfield 147, 3) ∧ decode cX11_best 142 = .ok (.getfield 192, 3) ∧ decode cX11_best 145 = .ok (.iload_n 3, 1) ∧ decode cX11_best 146 = .ok (.iload 4, 2) ∧ decode cX11_best 148 = .ok (.isub, 1) ∧ True := dkl_ok (c := cX11_best) [(.iload 8, 2), (.aload_n 0, 1), (.getfield 42, 3), (.getfield 147, 3), (.getfield 192, 3), (.iload_n 3, 1), (.iload 4, 2), (.isub, 1)] 133 (by decide +kernel)
theorem dX11_best_133 : decode cX11_best 133 = .ok (.iload 8, 2) := eX11_best_133.1
theorem dX11_best_135 : decode cX11_best 135 = .ok (.aload_n 0, 1) := eX11_best_133.2.1
theorem dX11_best_136 : decode cX11_best 136 = .ok (.getfield 42, 3) := eX11_best_133.2.2.1
theorem dX11_best_139 : decode cX11_best 139 = .ok (.getfield 147, 3) := eX11_best_133.2.2.2.1
theorem dX11_best_142 : decode cX11_best 142 = .ok (.getfield 192, 3) := eX11_best_133.2.2.2.2.1
theorem dX11_best_145 : decode cX11_best 145 = .ok (.iload_n 3, 1) := eX11_best_133.2.2.2.2.2.1
theorem dX11_best_146 : decode cX11_best 146 = .ok (.iload 4, 2) := eX11_best_133.2.2.2.2.2.2.1
theorem dX11_best_148 : decode cX11_best 148 = .ok (.isub, 1) := eX11_best_133.2.2.2.2.2.2.2.1
theorem eX11_best_149 : decode cX11_best 149 = .ok (.invokestatic 375, 3) ∧ decode cX11_best 152 = .ok (.if_icmp .gt 87, 3) ∧ decode cX11_best 155 = .ok (.aload_n 0, 1) ∧ decode cX11_best 156 = .ok (.getfield 42, 3) ∧ decode cX11_best 159 = .ok (.getfield 147, 3) ∧ decode cX11_best 162 = .ok (.getfield 192, 3) ∧ decode cX11_best 165 = .ok (.iload 8, 2) ∧ decode cX11_best 167 = .ok (.isub, 1) ∧ True := dkl_ok (c := cX11_best) [(.invokestatic 375, 3), (.if_icmp .gt 87, 3), (.aload_n 0, 1), (.getfield 42, 3), (.getfield 147, 3), (.getfield 192, 3), (.iload 8, 2), (.isub, 1)] 149 (by decide +kernel)
theorem dX11_best_149 : decode cX11_best 149 = .ok (.invokestatic 375, 3) := eX11_best_149.1
theorem dX11_best_152 : decode cX11_best 152 = .ok (.if_icmp .gt 87, 3) := eX11_best_149.2.1
theorem dX11_best_155 : decode cX11_best 155 = .ok (.aload_n 0, 1) := eX11_best_149.2.2.1
theorem dX11_best_156 : decode cX11_best 156 = .ok (.getfield 42, 3) := eX11_best_149.2.2.2.1
theorem dX11_best_159 : decode cX11_best 159 = .ok (.getfield 147, 3) := eX11_best_149.2.2.2.2.1
theorem dX11_best_162 : decode cX11_best 162 = .ok (.getfield 192, 3) := eX11_best_149.2.2.2.2.2.1
theorem dX11_best_165 : decode cX11_best 165 = .ok (.iload 8, 2) := eX11_best_149.2.2.2.2.2.2.1
theorem dX11_best_167 : decode cX11_best 167 = .ok (.isub, 1) := eX11_best_149.2.2.2.2.2.2.2.1
theorem eX11_best_168 : decode cX11_best 168 = .ok (.iload 4, 2) ∧ decode cX11_best 170 = .ok (.invokestatic 375, 3) ∧ decode cX11_best 173 = .ok (.istore 9, 2) ∧ decode cX11_best 175 = .ok (.iload 9, 2) ∧ decode cX11_best 177 = .ok (.ifCond .lt 56, 3) ∧ decode cX11_best 180 = .ok (.aload_n 0, 1) ∧ decode cX11_best 181 = .ok (.getfield 42, 3) ∧ decode cX11_best 184 = .ok (.iload 9, 2) ∧ True := dkl_ok (c := cX11_best) [(.iload 4, 2), (.invokestatic 375, 3), (.istore 9, 2), (.iload 9, 2), (.ifCond .lt 56, 3), (.aload_n 0, 1), (.getfield 42, 3), (.iload 9, 2)] 168 (by decide +kernel)
theorem dX11_best_168 : decode cX11_best 168 = .ok (.iload 4, 2) := eX11_best_168.1
theorem dX11_best_170 : decode cX11_best 170 = .ok (.invokestatic 375, 3) := eX11_best_168.2.1
theorem dX11_best_173 : decode cX11_best 173 = .ok (.istore 9, 2) := eX11_best_168.2.2.1
theorem dX11_best_175 : decode cX11_best 175 = .ok (.iload 9, 2) := eX11_best_168.2.2.2.1
theorem dX11_best_177 : decode cX11_best 177 = .ok (.ifCond .lt 56, 3) := eX11_best_168.2.2.2.2.1
theorem dX11_best_180 : decode cX11_best 180 = .ok (.aload_n 0, 1) := eX11_best_168.2.2.2.2.2.1
theorem dX11_best_181 : decode cX11_best 181 = .ok (.getfield 42, 3) := eX11_best_168.2.2.2.2.2.2.1
theorem dX11_best_184 : decode cX11_best 184 = .ok (.iload 9, 2) := eX11_best_168.2.2.2.2.2.2.2.1
theorem eX11_best_186 : decode cX11_best 186 = .ok (.iload 8, 2) ∧ decode cX11_best 188 = .ok (.iload_n 1, 1) ∧ decode cX11_best 189 = .ok (.invokevirtual 380, 3) ∧ decode cX11_best 192 = .ok (.istore 10, 2) ∧ decode cX11_best 194 = .ok (.iload 9, 2) ∧ decode cX11_best 196 = .ok (.iload 8, 2) ∧ decode cX11_best 198 = .ok (.iadd, 1) ∧ decode cX11_best 199 = .ok (.ifCond .le 28, 3) ∧ True := dkl_ok (c := cX11_best) [(.iload 8, 2), (.iload_n 1, 1), (.invokevirtual 380, 3), (.istore 10, 2), (.iload 9, 2), (.iload 8, 2), (.iadd, 1), (.ifCond .le 28, 3)] 186 (by decide +kernel)
theorem dX11_best_186 : decode cX11_best 186 = .ok (.iload 8, 2) := eX11_best_186.1
theorem dX11_best_188 : decode cX11_best 188 = .ok (.iload_n 1, 1) := eX11_best_186.2.1
theorem dX11_best_189 : decode cX11_best 189 = .ok (.invokevirtual 380, 3) := eX11_best_186.2.2.1
theorem dX11_best_192 : decode cX11_best 192 = .ok (.istore 10, 2) := eX11_best_186.2.2.2.1
theorem dX11_best_194 : decode cX11_best 194 = .ok (.iload 9, 2) := eX11_best_186.2.2.2.2.1
theorem dX11_best_196 : decode cX11_best 196 = .ok (.iload 8, 2) := eX11_best_186.2.2.2.2.2.1
theorem dX11_best_198 : decode cX11_best 198 = .ok (.iadd, 1) := eX11_best_186.2.2.2.2.2.2.1
theorem dX11_best_199 : decode cX11_best 199 = .ok (.ifCond .le 28, 3) := eX11_best_186.2.2.2.2.2.2.2.1
theorem eX11_best_202 : decode cX11_best 202 = .ok (.iload 7, 2) ∧ decode cX11_best 204 = .ok (.iconst (-1), 1) ∧ decode cX11_best 205 = .ok (.if_icmp .eq 10, 3) ∧ decode cX11_best 208 = .ok (.iload 10, 2) ∧ decode cX11_best 210 = .ok (.iload 7, 2) ∧ decode cX11_best 212 = .ok (.if_icmp .ge 15, 3) ∧ decode cX11_best 215 = .ok (.iload 10, 2) ∧ decode cX11_best 217 = .ok (.istore 7, 2) ∧ True := dkl_ok (c := cX11_best) [(.iload 7, 2), (.iconst (-1), 1), (.if_icmp .eq 10, 3), (.iload 10, 2), (.iload 7, 2), (.if_icmp .ge 15, 3), (.iload 10, 2), (.istore 7, 2)] 202 (by decide +kernel)
theorem dX11_best_202 : decode cX11_best 202 = .ok (.iload 7, 2) := eX11_best_202.1
theorem dX11_best_204 : decode cX11_best 204 = .ok (.iconst (-1), 1) := eX11_best_202.2.1
theorem dX11_best_205 : decode cX11_best 205 = .ok (.if_icmp .eq 10, 3) := eX11_best_202.2.2.1
theorem dX11_best_208 : decode cX11_best 208 = .ok (.iload 10, 2) := eX11_best_202.2.2.2.1
theorem dX11_best_210 : decode cX11_best 210 = .ok (.iload 7, 2) := eX11_best_202.2.2.2.2.1
theorem dX11_best_212 : decode cX11_best 212 = .ok (.if_icmp .ge 15, 3) := eX11_best_202.2.2.2.2.2.1
theorem dX11_best_215 : decode cX11_best 215 = .ok (.iload 10, 2) := eX11_best_202.2.2.2.2.2.2.1
theorem dX11_best_217 : decode cX11_best 217 = .ok (.istore 7, 2) := eX11_best_202.2.2.2.2.2.2.2.1
theorem eX11_best_219 : decode cX11_best 219 = .ok (.iload 9, 2) ∧ decode cX11_best 221 = .ok (.istore 5, 2) ∧ decode cX11_best 223 = .ok (.iload 8, 2) ∧ decode cX11_best 225 = .ok (.istore 6, 2) ∧ decode cX11_best 227 = .ok (.iinc 9 (-1), 3) ∧ decode cX11_best 230 = .ok (.goto (-55), 3) ∧ decode cX11_best 233 = .ok (.iinc 8 1, 3) ∧ decode cX11_best 236 = .ok (.goto (-103), 3) ∧ True := dkl_ok (c := cX11_best) [(.iload 9, 2), (.istore 5, 2), (.iload 8, 2), (.istore 6, 2), (.iinc 9 (-1), 3), (.goto (-55), 3), (.iinc 8 1, 3), (.goto (-103), 3)] 219 (by decide +kernel)
theorem dX11_best_219 : decode cX11_best 219 = .ok (.iload 9, 2) := eX11_best_219.1
theorem dX11_best_221 : decode cX11_best 221 = .ok (.istore 5, 2) := eX11_best_219.2.1
theorem dX11_best_223 : decode cX11_best 223 = .ok (.iload 8, 2) := eX11_best_219.2.2.1
theorem dX11_best_225 : decode cX11_best 225 = .ok (.istore 6, 2) := eX11_best_219.2.2.2.1
theorem dX11_best_227 : decode cX11_best 227 = .ok (.iinc 9 (-1), 3) := eX11_best_219.2.2.2.2.1
theorem dX11_best_230 : decode cX11_best 230 = .ok (.goto (-55), 3) := eX11_best_219.2.2.2.2.2.1
theorem dX11_best_233 : decode cX11_best 233 = .ok (.iinc 8 1, 3) := eX11_best_219.2.2.2.2.2.2.1
theorem dX11_best_236 : decode cX11_best 236 = .ok (.goto (-103), 3) := eX11_best_219.2.2.2.2.2.2.2.1
theorem eX11_best_239 : decode cX11_best 239 = .ok (.aload_n 0, 1) ∧ decode cX11_best 240 = .ok (.iload 7, 2) ∧ decode cX11_best 242 = .ok (.i2l, 1) ∧ decode cX11_best 243 = .ok (.ldc2_w 384, 3) ∧ decode cX11_best 246 = .ok (.invokevirtual 326, 3) ∧ decode cX11_best 249 = .ok (.pop, 1) ∧ decode cX11_best 250 = .ok (.iload_n 2, 1) ∧ decode cX11_best 251 = .ok (.ifCond .ne 8, 3) ∧ True := dkl_ok (c := cX11_best) [(.aload_n 0, 1), (.iload 7, 2), (.i2l, 1), (.ldc2_w 384, 3), (.invokevirtual 326, 3), (.pop, 1), (.iload_n 2, 1), (.ifCond .ne 8, 3)] 239 (by decide +kernel)
theorem dX11_best_239 : decode cX11_best 239 = .ok (.aload_n 0, 1) := eX11_best_239.1
theorem dX11_best_240 : decode cX11_best 240 = .ok (.iload 7, 2) := eX11_best_239.2.1
theorem dX11_best_242 : decode cX11_best 242 = .ok (.i2l, 1) := eX11_best_239.2.2.1
theorem dX11_best_243 : decode cX11_best 243 = .ok (.ldc2_w 384, 3) := eX11_best_239.2.2.2.1
theorem dX11_best_246 : decode cX11_best 246 = .ok (.invokevirtual 326, 3) := eX11_best_239.2.2.2.2.1
theorem dX11_best_249 : decode cX11_best 249 = .ok (.pop, 1) := eX11_best_239.2.2.2.2.2.1
theorem dX11_best_250 : decode cX11_best 250 = .ok (.iload_n 2, 1) := eX11_best_239.2.2.2.2.2.2.1
theorem dX11_best_251 : decode cX11_best 251 = .ok (.ifCond .ne 8, 3) := eX11_best_239.2.2.2.2.2.2.2.1
theorem eX11_best_254 : decode cX11_best 254 = .ok (.iload 5, 2) ∧ decode cX11_best 256 = .ok (.goto 5, 3) ∧ decode cX11_best 259 = .ok (.iload 6, 2) ∧ decode cX11_best 261 = .ok (.ireturn, 1) ∧ True := dkl_ok (c := cX11_best) [(.iload 5, 2), (.goto 5, 3), (.iload 6, 2), (.ireturn, 1)] 254 (by decide +kernel)
theorem dX11_best_254 : decode cX11_best 254 = .ok (.iload 5, 2) := eX11_best_254.1
theorem dX11_best_256 : decode cX11_best 256 = .ok (.goto 5, 3) := eX11_best_254.2.1
theorem dX11_best_259 : decode cX11_best 259 = .ok (.iload 6, 2) := eX11_best_254.2.2.1
theorem dX11_best_261 : decode cX11_best 261 = .ok (.ireturn, 1) := eX11_best_254.2.2.2.1
theorem eX11_sayer_0 : decode cX11_sayer 0 = .ok (.aload_n 0, 1) ∧ decode cX11_sayer 1 = .ok (.iload_n 1, 1) ∧ decode cX11_sayer 2 = .ok (.invokevirtual 250, 3) ∧ decode cX11_sayer 5 = .ok (.ifCond .ne 9, 3) ∧ decode cX11_sayer 8 = .ok (.aload_n 0, 1) ∧ decode cX11_sayer 9 = .ok (.iconst 2, 1) ∧ decode cX11_sayer 10 = .ok (.invokevirtual 109, 3) ∧ decode cX11_sayer 13 = .ok (.ireturn, 1) ∧ True := dkl_ok (c := cX11_sayer) [(.aload_n 0, 1), (.iload_n 1, 1), (.invokevirtual 250, 3), (.ifCond .ne 9, 3), (.aload_n 0, 1), (.iconst 2, 1), (.invokevirtual 109, 3), (.ireturn, 1)] 0 (by decide +kernel)
theorem dX11_sayer_0 : decode cX11_sayer 0 = .ok (.aload_n 0, 1) := eX11_sayer_0.1
theorem dX11_sayer_1 : decode cX11_sayer 1 = .ok (.iload_n 1, 1) := eX11_sayer_0.2.1
theorem dX11_sayer_2 : decode cX11_sayer 2 = .ok (.invokevirtual 250, 3) := eX11_sayer_0.2.2.1
theorem dX11_sayer_5 : decode cX11_sayer 5 = .ok (.ifCond .ne 9, 3) := eX11_sayer_0.2.2.2.1
theorem dX11_sayer_8 : decode cX11_sayer 8 = .ok (.aload_n 0, 1) := eX11_sayer_0.2.2.2.2.1
theorem dX11_sayer_9 : decode cX11_sayer 9 = .ok (.iconst 2, 1) := eX11_sayer_0.2.2.2.2.2.1
theorem dX11_sayer_10 : decode cX11_sayer 10 = .ok (.invokevirtual 109, 3) := eX11_sayer_0.2.2.2.2.2.2.1
theorem dX11_sayer_13 : decode cX11_sayer 13 = .ok (.ireturn, 1) := eX11_sayer_0.2.2.2.2.2.2.2.1
theorem eX11_sayer_14 : decode cX11_sayer 14 = .ok (.aload_n 0, 1) ∧ decode cX11_sayer 15 = .ok (.getfield 42, 3) ∧ decode cX11_sayer 18 = .ok (.getfield 147, 3) ∧ decode cX11_sayer 21 = .ok (.getfield 151, 3) ∧ decode cX11_sayer 24 = .ok (.ifCond .ne 10, 3) ∧ decode cX11_sayer 27 = .ok (.aload_n 0, 1) ∧ decode cX11_sayer 28 = .ok (.bipush 8, 2) ∧ decode cX11_sayer 30 = .ok (.invokevirtual 109, 3) ∧ True := dkl_ok (c := cX11_sayer) [(.aload_n 0, 1), (.getfield 42, 3), (.getfield 147, 3), (.getfield 151, 3), (.ifCond .ne 10, 3), (.aload_n 0, 1), (.bipush 8, 2), (.invokevirtual 109, 3)] 14 (by decide +kernel)
theorem dX11_sayer_14 : decode cX11_sayer 14 = .ok (.aload_n 0, 1) := eX11_sayer_14.1
theorem dX11_sayer_15 : decode cX11_sayer 15 = .ok (.getfield 42, 3) := eX11_sayer_14.2.1
theorem dX11_sayer_18 : decode cX11_sayer 18 = .ok (.getfield 147, 3) := eX11_sayer_14.2.2.1
theorem dX11_sayer_21 : decode cX11_sayer 21 = .ok (.getfield 151, 3) := eX11_sayer_14.2.2.2.1
theorem dX11_sayer_24 : decode cX11_sayer 24 = .ok (.ifCond .ne 10, 3) := eX11_sayer_14.2.2.2.2.1
theorem dX11_sayer_27 : decode cX11_sayer 27 = .ok (.aload_n 0, 1) := eX11_sayer_14.2.2.2.2.2.1
theorem dX11_sayer_28 : decode cX11_sayer 28 = .ok (.bipush 8, 2) := eX11_sayer_14.2.2.2.2.2.2.1
theorem dX11_sayer_30 : decode cX11_sayer 30 = .ok (.invokevirtual 109, 3) := eX11_sayer_14.2.2.2.2.2.2.2.1
theorem eX11_sayer_33 : decode cX11_sayer 33 = .ok (.ireturn, 1) ∧ decode cX11_sayer 34 = .ok (.aload_n 0, 1) ∧ decode cX11_sayer 35 = .ok (.getfield 42, 3) ∧ decode cX11_sayer 38 = .ok (.getfield 210, 3) ∧ decode cX11_sayer 41 = .ok (.ifCond .eq 7, 3) ∧ decode cX11_sayer 44 = .ok (.iconst 1, 1) ∧ decode cX11_sayer 45 = .ok (.goto 4, 3) ∧ decode cX11_sayer 48 = .ok (.iconst 0, 1) ∧ True := dkl_ok (c := cX11_sayer) [(.ireturn, 1), (.aload_n 0, 1), (.getfield 42, 3), (.getfield 210, 3), (.ifCond .eq 7, 3), (.iconst 1, 1), (.goto 4, 3), (.iconst 0, 1)] 33 (by decide +kernel)
theorem dX11_sayer_33 : decode cX11_sayer 33 = .ok (.ireturn, 1) := eX11_sayer_33.1
theorem dX11_sayer_34 : decode cX11_sayer 34 = .ok (.aload_n 0, 1) := eX11_sayer_33.2.1
theorem dX11_sayer_35 : decode cX11_sayer 35 = .ok (.getfield 42, 3) := eX11_sayer_33.2.2.1
theorem dX11_sayer_38 : decode cX11_sayer 38 = .ok (.getfield 210, 3) := eX11_sayer_33.2.2.2.1
theorem dX11_sayer_41 : decode cX11_sayer 41 = .ok (.ifCond .eq 7, 3) := eX11_sayer_33.2.2.2.2.1
theorem dX11_sayer_44 : decode cX11_sayer 44 = .ok (.iconst 1, 1) := eX11_sayer_33.2.2.2.2.2.1
theorem dX11_sayer_45 : decode cX11_sayer 45 = .ok (.goto 4, 3) := eX11_sayer_33.2.2.2.2.2.2.1
theorem dX11_sayer_48 : decode cX11_sayer 48 = .ok (.iconst 0, 1) := eX11_sayer_33.2.2.2.2.2.2.2.1
theorem eX11_sayer_49 : decode cX11_sayer 49 = .ok (.istore_n 2, 1) ∧ decode cX11_sayer 50 = .ok (.iload_n 2, 1) ∧ decode cX11_sayer 51 = .ok (.istore_n 3, 1) ∧ decode cX11_sayer 52 = .ok (.iload_n 3, 1) ∧ decode cX11_sayer 53 = .ok (.aload_n 0, 1) ∧ decode cX11_sayer 54 = .ok (.getfield 42, 3) ∧ decode cX11_sayer 57 = .ok (.getfield 147, 3) ∧ decode cX11_sayer 60 = .ok (.getfield 183, 3) ∧ True := dkl_ok (c := cX11_sayer) [(.istore_n 2, 1), (.iload_n 2, 1), (.istore_n 3, 1), (.iload_n 3, 1), (.aload_n 0, 1), (.getfield 42, 3), (.getfield 147, 3), (.getfield 183, 3)] 49 (by decide +kernel)
theorem dX11_sayer_49 : decode cX11_sayer 49 = .ok (.istore_n 2, 1) := eX11_sayer_49.1
theorem dX11_sayer_50 : decode cX11_sayer 50 = .ok (.iload_n 2, 1) := eX11_sayer_49.2.1
theorem dX11_sayer_51 : decode cX11_sayer 51 = .ok (.istore_n 3, 1) := eX11_sayer_49.2.2.1
theorem dX11_sayer_52 : decode cX11_sayer 52 = .ok (.iload_n 3, 1) := eX11_sayer_49.2.2.2.1
theorem dX11_sayer_53 : decode cX11_sayer 53 = .ok (.aload_n 0, 1) := eX11_sayer_49.2.2.2.2.1
theorem dX11_sayer_54 : decode cX11_sayer 54 = .ok (.getfield 42, 3) := eX11_sayer_49.2.2.2.2.2.1
theorem dX11_sayer_57 : decode cX11_sayer 57 = .ok (.getfield 147, 3) := eX11_sayer_49.2.2.2.2.2.2.1
theorem dX11_sayer_60 : decode cX11_sayer 60 = .ok (.getfield 183, 3) := eX11_sayer_49.2.2.2.2.2.2.2.1
theorem eX11_sayer_63 : decode cX11_sayer 63 = .ok (.if_icmp .gt 54, 3) ∧ decode cX11_sayer 66 = .ok (.aload_n 0, 1) ∧ decode cX11_sayer 67 = .ok (.getfield 42, 3) ∧ decode cX11_sayer 70 = .ok (.getfield 147, 3) ∧ decode cX11_sayer 73 = .ok (.aload_n 0, 1) ∧ decode cX11_sayer 74 = .ok (.getfield 42, 3) ∧ decode cX11_sayer 77 = .ok (.getfield 195, 3) ∧ decode cX11_sayer 80 = .ok (.iload_n 3, 1) ∧ True := dkl_ok (c := cX11_sayer) [(.if_icmp .gt 54, 3), (.aload_n 0, 1), (.getfield 42, 3), (.getfield 147, 3), (.aload_n 0, 1), (.getfield 42, 3), (.getfield 195, 3), (.iload_n 3, 1)] 63 (by decide +kernel)
theorem dX11_sayer_63 : decode cX11_sayer 63 = .ok (.if_icmp .gt 54, 3) := eX11_sayer_63.1
theorem dX11_sayer_66 : decode cX11_sayer 66 = .ok (.aload_n 0, 1) := eX11_sayer_63.2.1
theorem dX11_sayer_67 : decode cX11_sayer 67 = .ok (.getfield 42, 3) := eX11_sayer_63.2.2.1
theorem dX11_sayer_70 : decode cX11_sayer 70 = .ok (.getfield 147, 3) := eX11_sayer_63.2.2.2.1
theorem dX11_sayer_73 : decode cX11_sayer 73 = .ok (.aload_n 0, 1) := eX11_sayer_63.2.2.2.2.1
theorem dX11_sayer_74 : decode cX11_sayer 74 = .ok (.getfield 42, 3) := eX11_sayer_63.2.2.2.2.2.1
theorem dX11_sayer_77 : decode cX11_sayer 77 = .ok (.getfield 195, 3) := eX11_sayer_63.2.2.2.2.2.2.1
theorem dX11_sayer_80 : decode cX11_sayer 80 = .ok (.iload_n 3, 1) := eX11_sayer_63.2.2.2.2.2.2.2.1
theorem eX11_sayer_81 : decode cX11_sayer 81 = .ok (.invokevirtual 386, 3) ∧ decode cX11_sayer 84 = .ok (.iload_n 1, 1) ∧ decode cX11_sayer 85 = .ok (.if_icmp .ne 26, 3) ∧ decode cX11_sayer 88 = .ok (.aload_n 0, 1) ∧ decode cX11_sayer 89 = .ok (.aload_n 0, 1) ∧ decode cX11_sayer 90 = .ok (.getfield 42, 3) ∧ decode cX11_sayer 93 = .ok (.getfield 147, 3) ∧ decode cX11_sayer 96 = .ok (.aload_n 0, 1) ∧ True := dkl_ok (c := cX11_sayer) [(.invokevirtual 386, 3), (.iload_n 1, 1), (.if_icmp .ne 26, 3), (.aload_n 0, 1), (.aload_n 0, 1), (.getfield 42, 3), (.getfield 147, 3), (.aload_n 0, 1)] 81 (by decide +kernel)
theorem dX11_sayer_81 : decode cX11_sayer 81 = .ok (.invokevirtual 386, 3) := eX11_sayer_81.1
theorem dX11_sayer_84 : decode cX11_sayer 84 = .ok (.iload_n 1, 1) := eX11_sayer_81.2.1
theorem dX11_sayer_85 : decode cX11_sayer 85 = .ok (.if_icmp .ne 26, 3) := eX11_sayer_81.2.2.1
theorem dX11_sayer_88 : decode cX11_sayer 88 = .ok (.aload_n 0, 1) := eX11_sayer_81.2.2.2.1
theorem dX11_sayer_89 : decode cX11_sayer 89 = .ok (.aload_n 0, 1) := eX11_sayer_81.2.2.2.2.1
theorem dX11_sayer_90 : decode cX11_sayer 90 = .ok (.getfield 42, 3) := eX11_sayer_81.2.2.2.2.2.1
theorem dX11_sayer_93 : decode cX11_sayer 93 = .ok (.getfield 147, 3) := eX11_sayer_81.2.2.2.2.2.2.1
theorem dX11_sayer_96 : decode cX11_sayer 96 = .ok (.aload_n 0, 1) := eX11_sayer_81.2.2.2.2.2.2.2.1
theorem eX11_sayer_97 : decode cX11_sayer 97 = .ok (.getfield 42, 3) ∧ decode cX11_sayer 100 = .ok (.getfield 198, 3) ∧ decode cX11_sayer 103 = .ok (.iload_n 3, 1) ∧ decode cX11_sayer 104 = .ok (.invokevirtual 339, 3) ∧ decode cX11_sayer 107 = .ok (.invokevirtual 156, 3) ∧ decode cX11_sayer 110 = .ok (.ireturn, 1) ∧ decode cX11_sayer 111 = .ok (.iinc 3 1, 3) ∧ decode cX11_sayer 114 = .ok (.goto (-62), 3) ∧ True := dkl_ok (c := cX11_sayer) [(.getfield 42, 3), (.getfield 198, 3), (.iload_n 3, 1), (.invokevirtual 339, 3), (.invokevirtual 156, 3), (.ireturn, 1), (.iinc 3 1, 3), (.goto (-62), 3)] 97 (by decide +kernel)
theorem dX11_sayer_97 : decode cX11_sayer 97 = .ok (.getfield 42, 3) := eX11_sayer_97.1
theorem dX11_sayer_100 : decode cX11_sayer 100 = .ok (.getfield 198, 3) := eX11_sayer_97.2.1
theorem dX11_sayer_103 : decode cX11_sayer 103 = .ok (.iload_n 3, 1) := eX11_sayer_97.2.2.1
theorem dX11_sayer_104 : decode cX11_sayer 104 = .ok (.invokevirtual 339, 3) := eX11_sayer_97.2.2.2.1
theorem dX11_sayer_107 : decode cX11_sayer 107 = .ok (.invokevirtual 156, 3) := eX11_sayer_97.2.2.2.2.1
theorem dX11_sayer_110 : decode cX11_sayer 110 = .ok (.ireturn, 1) := eX11_sayer_97.2.2.2.2.2.1
theorem dX11_sayer_111 : decode cX11_sayer 111 = .ok (.iinc 3 1, 3) := eX11_sayer_97.2.2.2.2.2.2.1
theorem dX11_sayer_114 : decode cX11_sayer 114 = .ok (.goto (-62), 3) := eX11_sayer_97.2.2.2.2.2.2.2.1
theorem eX11_sayer_117 : decode cX11_sayer 117 = .ok (.aload_n 0, 1) ∧ decode cX11_sayer 118 = .ok (.bipush 8, 2) ∧ decode cX11_sayer 120 = .ok (.invokevirtual 109, 3) ∧ decode cX11_sayer 123 = .ok (.ireturn, 1) ∧ True := dkl_ok (c := cX11_sayer) [(.aload_n 0, 1), (.bipush 8, 2), (.invokevirtual 109, 3), (.ireturn, 1)] 117 (by decide +kernel)
theorem dX11_sayer_117 : decode cX11_sayer 117 = .ok (.aload_n 0, 1) := eX11_sayer_117.1
theorem dX11_sayer_118 : decode cX11_sayer 118 = .ok (.bipush 8, 2) := eX11_sayer_117.2.1
theorem dX11_sayer_120 : decode cX11_sayer 120 = .ok (.invokevirtual 109, 3) := eX11_sayer_117.2.2.1
theorem dX11_sayer_123 : decode cX11_sayer 123 = .ok (.ireturn, 1) := eX11_sayer_117.2.2.2.1
theorem eX11_has_0 : decode cX11_has 0 = .ok (.aload_n 0, 1) ∧ decode cX11_has 1 = .ok (.iload_n 1, 1) ∧ decode cX11_has 2 = .ok (.invokevirtual 219, 3) ∧ decode cX11_has 5 = .ok (.ifCond .ne 9, 3) ∧ decode cX11_has 8 = .ok (.aload_n 0, 1) ∧ decode cX11_has 9 = .ok (.iconst 2, 1) ∧ decode cX11_has 10 = .ok (.invokevirtual 109, 3) ∧ decode cX11_has 13 = .ok (.ireturn, 1) ∧ True := dkl_ok (c := cX11_has) [(.aload_n 0, 1), (.iload_n 1, 1), (.invokevirtual 219, 3), (.ifCond .ne 9, 3), (.aload_n 0, 1), (.iconst 2, 1), (.invokevirtual 109, 3), (.ireturn, 1)] 0 (by decide +kernel)
theorem dX11_has_0 : decode cX11_has 0 = .ok (.aload_n 0, 1) := eX11_has_0.1
theorem dX11_has_1 : decode cX11_has 1 = .ok (.iload_n 1, 1) := eX11_has_0.2.1
theorem dX11_has_2 : decode cX11_has 2 = .ok (.invokevirtual 219, 3) := eX11_has_0.2.2.1
theorem dX11_has_5 : decode cX11_has 5 = .ok (.ifCond .ne 9, 3) := eX11_has_0.2.2.2.1
theorem dX11_has_8 : decode cX11_has 8 = .ok (.aload_n 0, 1) := eX11_has_0.2.2.2.2.1
theorem dX11_has_9 : decode cX11_has 9 = .ok (.iconst 2, 1) := eX11_has_0.2.2.2.2.2.1
theorem dX11_has_10 : decode cX11_has 10 = .ok (.invokevirtual 109, 3) := eX11_has_0.2.2.2.2.2.2.1
theorem dX11_has_13 : decode cX11_has 13 = .ok (.ireturn, 1) := eX11_has_0.2.2.2.2.2.2.2.1
theorem eX11_has_14 : decode cX11_has 14 = .ok (.iconst 0, 1) ∧ decode cX11_has 15 = .ok (.istore_n 2, 1) ∧ decode cX11_has 16 = .ok (.iconst 0, 1) ∧ decode cX11_has 17 = .ok (.istore_n 3, 1) ∧ decode cX11_has 18 = .ok (.iload_n 3, 1) ∧ decode cX11_has 19 = .ok (.aload_n 0, 1) ∧ decode cX11_has 20 = .ok (.getfield 42, 3) ∧ decode cX11_has 23 = .ok (.getfield 147, 3) ∧ True := dkl_ok (c := cX11_has) [(.iconst 0, 1), (.istore_n 2, 1), (.iconst 0, 1), (.istore_n 3, 1), (.iload_n 3, 1), (.aload_n 0, 1), (.getfield 42, 3), (.getfield 147, 3)] 14 (by decide +kernel)
theorem dX11_has_14 : decode cX11_has 14 = .ok (.iconst 0, 1) := eX11_has_14.1
theorem dX11_has_15 : decode cX11_has 15 = .ok (.istore_n 2, 1) := eX11_has_14.2.1
theorem dX11_has_16 : decode cX11_has 16 = .ok (.iconst 0, 1) := eX11_has_14.2.2.1
theorem dX11_has_17 : decode cX11_has 17 = .ok (.istore_n 3, 1) := eX11_has_14.2.2.2.1
theorem dX11_has_18 : decode cX11_has 18 = .ok (.iload_n 3, 1) := eX11_has_14.2.2.2.2.1
theorem dX11_has_19 : decode cX11_has 19 = .ok (.aload_n 0, 1) := eX11_has_14.2.2.2.2.2.1
theorem dX11_has_20 : decode cX11_has 20 = .ok (.getfield 42, 3) := eX11_has_14.2.2.2.2.2.2.1
theorem dX11_has_23 : decode cX11_has 23 = .ok (.getfield 147, 3) := eX11_has_14.2.2.2.2.2.2.2.1
theorem eX11_has_26 : decode cX11_has 26 = .ok (.getfield 183, 3) ∧ decode cX11_has 29 = .ok (.if_icmp .ge 30, 3) ∧ decode cX11_has 32 = .ok (.aload_n 0, 1) ∧ decode cX11_has 33 = .ok (.getfield 42, 3) ∧ decode cX11_has 36 = .ok (.getfield 222, 3) ∧ decode cX11_has 39 = .ok (.iload_n 1, 1) ∧ decode cX11_has 40 = .ok (.iload_n 3, 1) ∧ decode cX11_has 41 = .ok (.invokevirtual 253, 3) ∧ True := dkl_ok (c := cX11_has) [(.getfield 183, 3), (.if_icmp .ge 30, 3), (.aload_n 0, 1), (.getfield 42, 3), (.getfield 222, 3), (.iload_n 1, 1), (.iload_n 3, 1), (.invokevirtual 253, 3)] 26 (by decide +kernel)
theorem dX11_has_26 : decode cX11_has 26 = .ok (.getfield 183, 3) := eX11_has_26.1
theorem dX11_has_29 : decode cX11_has 29 = .ok (.if_icmp .ge 30, 3) := eX11_has_26.2.1
theorem dX11_has_32 : decode cX11_has 32 = .ok (.aload_n 0, 1) := eX11_has_26.2.2.1
theorem dX11_has_33 : decode cX11_has 33 = .ok (.getfield 42, 3) := eX11_has_26.2.2.2.1
theorem dX11_has_36 : decode cX11_has 36 = .ok (.getfield 222, 3) := eX11_has_26.2.2.2.2.1
theorem dX11_has_39 : decode cX11_has 39 = .ok (.iload_n 1, 1) := eX11_has_26.2.2.2.2.2.1
theorem dX11_has_40 : decode cX11_has 40 = .ok (.iload_n 3, 1) := eX11_has_26.2.2.2.2.2.2.1
theorem dX11_has_41 : decode cX11_has 41 = .ok (.invokevirtual 253, 3) := eX11_has_26.2.2.2.2.2.2.2.1
theorem eX11_has_44 : decode cX11_has 44 = .ok (.ifCond .le 9, 3) ∧ decode cX11_has 47 = .ok (.iload_n 2, 1) ∧ decode cX11_has 48 = .ok (.iconst 1, 1) ∧ decode cX11_has 49 = .ok (.iload_n 3, 1) ∧ decode cX11_has 50 = .ok (.ishl, 1) ∧ decode cX11_has 51 = .ok (.ior, 1) ∧ decode cX11_has 52 = .ok (.istore_n 2, 1) ∧ decode cX11_has 53 = .ok (.iinc 3 1, 3) ∧ True := dkl_ok (c := cX11_has) [(.ifCond .le 9, 3), (.iload_n 2, 1), (.iconst 1, 1), (.iload_n 3, 1), (.ishl, 1), (.ior, 1), (.istore_n 2, 1), (.iinc 3 1, 3)] 44 (by decide +kernel)
theorem dX11_has_44 : decode cX11_has 44 = .ok (.ifCond .le 9, 3) := eX11_has_44.1
theorem dX11_has_47 : decode cX11_has 47 = .ok (.iload_n 2, 1) := eX11_has_44.2.1
theorem dX11_has_48 : decode cX11_has 48 = .ok (.iconst 1, 1) := eX11_has_44.2.2.1
theorem dX11_has_49 : decode cX11_has 49 = .ok (.iload_n 3, 1) := eX11_has_44.2.2.2.1
theorem dX11_has_50 : decode cX11_has 50 = .ok (.ishl, 1) := eX11_has_44.2.2.2.2.1
theorem dX11_has_51 : decode cX11_has 51 = .ok (.ior, 1) := eX11_has_44.2.2.2.2.2.1
theorem dX11_has_52 : decode cX11_has 52 = .ok (.istore_n 2, 1) := eX11_has_44.2.2.2.2.2.2.1
theorem dX11_has_53 : decode cX11_has 53 = .ok (.iinc 3 1, 3) := eX11_has_44.2.2.2.2.2.2.2.1
theorem eX11_has_56 : decode cX11_has 56 = .ok (.goto (-38), 3) ∧ decode cX11_has 59 = .ok (.aload_n 0, 1) ∧ decode cX11_has 60 = .ok (.iload_n 2, 1) ∧ decode cX11_has 61 = .ok (.invokevirtual 156, 3) ∧ decode cX11_has 64 = .ok (.ireturn, 1) ∧ True := dkl_ok (c := cX11_has) [(.goto (-38), 3), (.aload_n 0, 1), (.iload_n 2, 1), (.invokevirtual 156, 3), (.ireturn, 1)] 56 (by decide +kernel)
theorem dX11_has_56 : decode cX11_has 56 = .ok (.goto (-38), 3) := eX11_has_56.1
theorem dX11_has_59 : decode cX11_has 59 = .ok (.aload_n 0, 1) := eX11_has_56.2.1
theorem dX11_has_60 : decode cX11_has 60 = .ok (.iload_n 2, 1) := eX11_has_56.2.2.1
theorem dX11_has_61 : decode cX11_has 61 = .ok (.invokevirtual 156, 3) := eX11_has_56.2.2.2.1
theorem dX11_has_64 : decode cX11_has 64 = .ok (.ireturn, 1) := eX11_has_56.2.2.2.2.1
theorem eX11_lies_0 : decode cX11_lies 0 = .ok (.aload_n 0, 1) ∧ decode cX11_lies 1 = .ok (.iload_n 1, 1) ∧ decode cX11_lies 2 = .ok (.invokevirtual 250, 3) ∧ decode cX11_lies 5 = .ok (.ifCond .eq 18, 3) ∧ decode cX11_lies 8 = .ok (.aload_n 0, 1) ∧ decode cX11_lies 9 = .ok (.aload_n 0, 1) ∧ decode cX11_lies 10 = .ok (.getfield 42, 3) ∧ decode cX11_lies 13 = .ok (.iload_n 1, 1) ∧ True := dkl_ok (c := cX11_lies) [(.aload_n 0, 1), (.iload_n 1, 1), (.invokevirtual 250, 3), (.ifCond .eq 18, 3), (.aload_n 0, 1), (.aload_n 0, 1), (.getfield 42, 3), (.iload_n 1, 1)] 0 (by decide +kernel)
theorem dX11_lies_0 : decode cX11_lies 0 = .ok (.aload_n 0, 1) := eX11_lies_0.1
theorem dX11_lies_1 : decode cX11_lies 1 = .ok (.iload_n 1, 1) := eX11_lies_0.2.1
theorem dX11_lies_2 : decode cX11_lies 2 = .ok (.invokevirtual 250, 3) := eX11_lies_0.2.2.1
theorem dX11_lies_5 : decode cX11_lies 5 = .ok (.ifCond .eq 18, 3) := eX11_lies_0.2.2.2.1
theorem dX11_lies_8 : decode cX11_lies 8 = .ok (.aload_n 0, 1) := eX11_lies_0.2.2.2.2.1
theorem dX11_lies_9 : decode cX11_lies 9 = .ok (.aload_n 0, 1) := eX11_lies_0.2.2.2.2.2.1
theorem dX11_lies_10 : decode cX11_lies 10 = .ok (.getfield 42, 3) := eX11_lies_0.2.2.2.2.2.2.1
theorem dX11_lies_13 : decode cX11_lies 13 = .ok (.iload_n 1, 1) := eX11_lies_0.2.2.2.2.2.2.2.1
theorem eX11_lies_14 : decode cX11_lies 14 = .ok (.invokevirtual 389, 3) ∧ decode cX11_lies 17 = .ok (.invokevirtual 156, 3) ∧ decode cX11_lies 20 = .ok (.goto 8, 3) ∧ decode cX11_lies 23 = .ok (.aload_n 0, 1) ∧ decode cX11_lies 24 = .ok (.iconst 2, 1) ∧ decode cX11_lies 25 = .ok (.invokevirtual 109, 3) ∧ decode cX11_lies 28 = .ok (.ireturn, 1) ∧ True := dkl_ok (c := cX11_lies) [(.invokevirtual 389, 3), (.invokevirtual 156, 3), (.goto 8, 3), (.aload_n 0, 1), (.iconst 2, 1), (.invokevirtual 109, 3), (.ireturn, 1)] 14 (by decide +kernel)
theorem dX11_lies_14 : decode cX11_lies 14 = .ok (.invokevirtual 389, 3) := eX11_lies_14.1
theorem dX11_lies_17 : decode cX11_lies 17 = .ok (.invokevirtual 156, 3) := eX11_lies_14.2.1
theorem dX11_lies_20 : decode cX11_lies 20 = .ok (.goto 8, 3) := eX11_lies_14.2.2.1
theorem dX11_lies_23 : decode cX11_lies 23 = .ok (.aload_n 0, 1) := eX11_lies_14.2.2.2.1
theorem dX11_lies_24 : decode cX11_lies 24 = .ok (.iconst 2, 1) := eX11_lies_14.2.2.2.2.1
theorem dX11_lies_25 : decode cX11_lies 25 = .ok (.invokevirtual 109, 3) := eX11_lies_14.2.2.2.2.2.1
theorem dX11_lies_28 : decode cX11_lies 28 = .ok (.ireturn, 1) := eX11_lies_14.2.2.2.2.2.2.1
theorem eX11_guess_0 : decode cX11_guess 0 = .ok (.aload_n 0, 1) ∧ decode cX11_guess 1 = .ok (.iload_n 1, 1) ∧ decode cX11_guess 2 = .ok (.invokevirtual 219, 3) ∧ decode cX11_guess 5 = .ok (.ifCond .eq 11, 3) ∧ decode cX11_guess 8 = .ok (.aload_n 0, 1) ∧ decode cX11_guess 9 = .ok (.iload_n 2, 1) ∧ decode cX11_guess 10 = .ok (.invokevirtual 250, 3) ∧ decode cX11_guess 13 = .ok (.ifCond .ne 9, 3) ∧ True := dkl_ok (c := cX11_guess) [(.aload_n 0, 1), (.iload_n 1, 1), (.invokevirtual 219, 3), (.ifCond .eq 11, 3), (.aload_n 0, 1), (.iload_n 2, 1), (.invokevirtual 250, 3), (.ifCond .ne 9, 3)] 0 (by decide +kernel)
theorem dX11_guess_0 : decode cX11_guess 0 = .ok (.aload_n 0, 1) := eX11_guess_0.1
theorem dX11_guess_1 : decode cX11_guess 1 = .ok (.iload_n 1, 1) := eX11_guess_0.2.1
theorem dX11_guess_2 : decode cX11_guess 2 = .ok (.invokevirtual 219, 3) := eX11_guess_0.2.2.1
theorem dX11_guess_5 : decode cX11_guess 5 = .ok (.ifCond .eq 11, 3) := eX11_guess_0.2.2.2.1
theorem dX11_guess_8 : decode cX11_guess 8 = .ok (.aload_n 0, 1) := eX11_guess_0.2.2.2.2.1
theorem dX11_guess_9 : decode cX11_guess 9 = .ok (.iload_n 2, 1) := eX11_guess_0.2.2.2.2.2.1
theorem dX11_guess_10 : decode cX11_guess 10 = .ok (.invokevirtual 250, 3) := eX11_guess_0.2.2.2.2.2.2.1
theorem dX11_guess_13 : decode cX11_guess 13 = .ok (.ifCond .ne 9, 3) := eX11_guess_0.2.2.2.2.2.2.2.1
theorem eX11_guess_16 : decode cX11_guess 16 = .ok (.aload_n 0, 1) ∧ decode cX11_guess 17 = .ok (.iconst 2, 1) ∧ decode cX11_guess 18 = .ok (.invokevirtual 89, 3) ∧ decode cX11_guess 21 = .ok (.ireturn, 1) ∧ decode cX11_guess 22 = .ok (.iload_n 3, 1) ∧ decode cX11_guess 23 = .ok (.ifCond .lt 8, 3) ∧ decode cX11_guess 26 = .ok (.iload_n 3, 1) ∧ decode cX11_guess 27 = .ok (.iconst 4, 1) ∧ True := dkl_ok (c := cX11_guess) [(.aload_n 0, 1), (.iconst 2, 1), (.invokevirtual 89, 3), (.ireturn, 1), (.iload_n 3, 1), (.ifCond .lt 8, 3), (.iload_n 3, 1), (.iconst 4, 1)] 16 (by decide +kernel)
theorem dX11_guess_16 : decode cX11_guess 16 = .ok (.aload_n 0, 1) := eX11_guess_16.1
theorem dX11_guess_17 : decode cX11_guess 17 = .ok (.iconst 2, 1) := eX11_guess_16.2.1
theorem dX11_guess_18 : decode cX11_guess 18 = .ok (.invokevirtual 89, 3) := eX11_guess_16.2.2.1
theorem dX11_guess_21 : decode cX11_guess 21 = .ok (.ireturn, 1) := eX11_guess_16.2.2.2.1
theorem dX11_guess_22 : decode cX11_guess 22 = .ok (.iload_n 3, 1) := eX11_guess_16.2.2.2.2.1
theorem dX11_guess_23 : decode cX11_guess 23 = .ok (.ifCond .lt 8, 3) := eX11_guess_16.2.2.2.2.2.1
theorem dX11_guess_26 : decode cX11_guess 26 = .ok (.iload_n 3, 1) := eX11_guess_16.2.2.2.2.2.2.1
theorem dX11_guess_27 : decode cX11_guess 27 = .ok (.iconst 4, 1) := eX11_guess_16.2.2.2.2.2.2.2.1
theorem eX11_guess_28 : decode cX11_guess 28 = .ok (.if_icmp .le 9, 3) ∧ decode cX11_guess 31 = .ok (.aload_n 0, 1) ∧ decode cX11_guess 32 = .ok (.iconst 5, 1) ∧ decode cX11_guess 33 = .ok (.invokevirtual 89, 3) ∧ decode cX11_guess 36 = .ok (.ireturn, 1) ∧ decode cX11_guess 37 = .ok (.aload_n 0, 1) ∧ decode cX11_guess 38 = .ok (.getfield 42, 3) ∧ decode cX11_guess 41 = .ok (.iload_n 1, 1) ∧ True := dkl_ok (c := cX11_guess) [(.if_icmp .le 9, 3), (.aload_n 0, 1), (.iconst 5, 1), (.invokevirtual 89, 3), (.ireturn, 1), (.aload_n 0, 1), (.getfield 42, 3), (.iload_n 1, 1)] 28 (by decide +kernel)
theorem dX11_guess_28 : decode cX11_guess 28 = .ok (.if_icmp .le 9, 3) := eX11_guess_28.1
theorem dX11_guess_31 : decode cX11_guess 31 = .ok (.aload_n 0, 1) := eX11_guess_28.2.1
theorem dX11_guess_32 : decode cX11_guess 32 = .ok (.iconst 5, 1) := eX11_guess_28.2.2.1
theorem dX11_guess_33 : decode cX11_guess 33 = .ok (.invokevirtual 89, 3) := eX11_guess_28.2.2.2.1
theorem dX11_guess_36 : decode cX11_guess 36 = .ok (.ireturn, 1) := eX11_guess_28.2.2.2.2.1
theorem dX11_guess_37 : decode cX11_guess 37 = .ok (.aload_n 0, 1) := eX11_guess_28.2.2.2.2.2.1
theorem dX11_guess_38 : decode cX11_guess 38 = .ok (.getfield 42, 3) := eX11_guess_28.2.2.2.2.2.2.1
theorem dX11_guess_41 : decode cX11_guess 41 = .ok (.iload_n 1, 1) := eX11_guess_28.2.2.2.2.2.2.2.1
theorem eX11_guess_42 : decode cX11_guess 42 = .ok (.invokevirtual 311, 3) ∧ decode cX11_guess 45 = .ok (.istore 4, 2) ∧ decode cX11_guess 47 = .ok (.iload 4, 2) ∧ decode cX11_guess 49 = .ok (.iload_n 3, 1) ∧ decode cX11_guess 50 = .ok (.if_icmp .ge 10, 3) ∧ decode cX11_guess 53 = .ok (.aload_n 0, 1) ∧ decode cX11_guess 54 = .ok (.bipush 9, 2) ∧ decode cX11_guess 56 = .ok (.invokevirtual 89, 3) ∧ True := dkl_ok (c := cX11_guess) [(.invokevirtual 311, 3), (.istore 4, 2), (.iload 4, 2), (.iload_n 3, 1), (.if_icmp .ge 10, 3), (.aload_n 0, 1), (.bipush 9, 2), (.invokevirtual 89, 3)] 42 (by decide +kernel)
theorem dX11_guess_42 : decode cX11_guess 42 = .ok (.invokevirtual 311, 3) := eX11_guess_42.1
theorem dX11_guess_45 : decode cX11_guess 45 = .ok (.istore 4, 2) := eX11_guess_42.2.1
theorem dX11_guess_47 : decode cX11_guess 47 = .ok (.iload 4, 2) := eX11_guess_42.2.2.1
theorem dX11_guess_49 : decode cX11_guess 49 = .ok (.iload_n 3, 1) := eX11_guess_42.2.2.2.1
theorem dX11_guess_50 : decode cX11_guess 50 = .ok (.if_icmp .ge 10, 3) := eX11_guess_42.2.2.2.2.1
theorem dX11_guess_53 : decode cX11_guess 53 = .ok (.aload_n 0, 1) := eX11_guess_42.2.2.2.2.2.1
theorem dX11_guess_54 : decode cX11_guess 54 = .ok (.bipush 9, 2) := eX11_guess_42.2.2.2.2.2.2.1
theorem dX11_guess_56 : decode cX11_guess 56 = .ok (.invokevirtual 89, 3) := eX11_guess_42.2.2.2.2.2.2.2.1
theorem eX11_guess_59 : decode cX11_guess 59 = .ok (.ireturn, 1) ∧ decode cX11_guess 60 = .ok (.aload_n 0, 1) ∧ decode cX11_guess 61 = .ok (.aload_n 0, 1) ∧ decode cX11_guess 62 = .ok (.getfield 42, 3) ∧ decode cX11_guess 65 = .ok (.iload_n 1, 1) ∧ decode cX11_guess 66 = .ok (.iload_n 2, 1) ∧ decode cX11_guess 67 = .ok (.invokevirtual 314, 3) ∧ decode cX11_guess 70 = .ok (.iload_n 3, 1) ∧ True := dkl_ok (c := cX11_guess) [(.ireturn, 1), (.aload_n 0, 1), (.aload_n 0, 1), (.getfield 42, 3), (.iload_n 1, 1), (.iload_n 2, 1), (.invokevirtual 314, 3), (.iload_n 3, 1)] 59 (by decide +kernel)
theorem dX11_guess_59 : decode cX11_guess 59 = .ok (.ireturn, 1) := eX11_guess_59.1
theorem dX11_guess_60 : decode cX11_guess 60 = .ok (.aload_n 0, 1) := eX11_guess_59.2.1
theorem dX11_guess_61 : decode cX11_guess 61 = .ok (.aload_n 0, 1) := eX11_guess_59.2.2.1
theorem dX11_guess_62 : decode cX11_guess 62 = .ok (.getfield 42, 3) := eX11_guess_59.2.2.2.1
theorem dX11_guess_65 : decode cX11_guess 65 = .ok (.iload_n 1, 1) := eX11_guess_59.2.2.2.2.1
theorem dX11_guess_66 : decode cX11_guess 66 = .ok (.iload_n 2, 1) := eX11_guess_59.2.2.2.2.2.1
theorem dX11_guess_67 : decode cX11_guess 67 = .ok (.invokevirtual 314, 3) := eX11_guess_59.2.2.2.2.2.2.1
theorem dX11_guess_70 : decode cX11_guess 70 = .ok (.iload_n 3, 1) := eX11_guess_59.2.2.2.2.2.2.2.1
theorem eX11_guess_71 : decode cX11_guess 71 = .ok (.invokestatic 392, 3) ∧ decode cX11_guess 74 = .ok (.iload 4, 2) ∧ decode cX11_guess 76 = .ok (.iload_n 3, 1) ∧ decode cX11_guess 77 = .ok (.invokestatic 392, 3) ∧ decode cX11_guess 80 = .ok (.invokevirtual 326, 3) ∧ decode cX11_guess 83 = .ok (.ireturn, 1) ∧ True := dkl_ok (c := cX11_guess) [(.invokestatic 392, 3), (.iload 4, 2), (.iload_n 3, 1), (.invokestatic 392, 3), (.invokevirtual 326, 3), (.ireturn, 1)] 71 (by decide +kernel)
theorem dX11_guess_71 : decode cX11_guess 71 = .ok (.invokestatic 392, 3) := eX11_guess_71.1
theorem dX11_guess_74 : decode cX11_guess 74 = .ok (.iload 4, 2) := eX11_guess_71.2.1
theorem dX11_guess_76 : decode cX11_guess 76 = .ok (.iload_n 3, 1) := eX11_guess_71.2.2.1
theorem dX11_guess_77 : decode cX11_guess 77 = .ok (.invokestatic 392, 3) := eX11_guess_71.2.2.2.1
theorem dX11_guess_80 : decode cX11_guess 80 = .ok (.invokevirtual 326, 3) := eX11_guess_71.2.2.2.2.1
theorem dX11_guess_83 : decode cX11_guess 83 = .ok (.ireturn, 1) := eX11_guess_71.2.2.2.2.2.1
theorem eX11_fullest_0 : decode cX11_fullest 0 = .ok (.iconst (-1), 1) ∧ decode cX11_fullest 1 = .ok (.istore_n 1, 1) ∧ decode cX11_fullest 2 = .ok (.iconst (-1), 1) ∧ decode cX11_fullest 3 = .ok (.istore_n 2, 1) ∧ decode cX11_fullest 4 = .ok (.iconst 0, 1) ∧ decode cX11_fullest 5 = .ok (.istore_n 3, 1) ∧ decode cX11_fullest 6 = .ok (.iload_n 3, 1) ∧ decode cX11_fullest 7 = .ok (.aload_n 0, 1) ∧ True := dkl_ok (c := cX11_fullest) [(.iconst (-1), 1), (.istore_n 1, 1), (.iconst (-1), 1), (.istore_n 2, 1), (.iconst 0, 1), (.istore_n 3, 1), (.iload_n 3, 1), (.aload_n 0, 1)] 0 (by decide +kernel)
theorem dX11_fullest_0 : decode cX11_fullest 0 = .ok (.iconst (-1), 1) := eX11_fullest_0.1
theorem dX11_fullest_1 : decode cX11_fullest 1 = .ok (.istore_n 1, 1) := eX11_fullest_0.2.1
theorem dX11_fullest_2 : decode cX11_fullest 2 = .ok (.iconst (-1), 1) := eX11_fullest_0.2.2.1
theorem dX11_fullest_3 : decode cX11_fullest 3 = .ok (.istore_n 2, 1) := eX11_fullest_0.2.2.2.1
theorem dX11_fullest_4 : decode cX11_fullest 4 = .ok (.iconst 0, 1) := eX11_fullest_0.2.2.2.2.1
theorem dX11_fullest_5 : decode cX11_fullest 5 = .ok (.istore_n 3, 1) := eX11_fullest_0.2.2.2.2.2.1
theorem dX11_fullest_6 : decode cX11_fullest 6 = .ok (.iload_n 3, 1) := eX11_fullest_0.2.2.2.2.2.2.1
theorem dX11_fullest_7 : decode cX11_fullest 7 = .ok (.aload_n 0, 1) := eX11_fullest_0.2.2.2.2.2.2.2.1
theorem eX11_fullest_8 : decode cX11_fullest 8 = .ok (.getfield 42, 3) ∧ decode cX11_fullest 11 = .ok (.getfield 147, 3) ∧ decode cX11_fullest 14 = .ok (.getfield 151, 3) ∧ decode cX11_fullest 17 = .ok (.if_icmp .ge 44, 3) ∧ decode cX11_fullest 20 = .ok (.aload_n 0, 1) ∧ decode cX11_fullest 21 = .ok (.getfield 42, 3) ∧ decode cX11_fullest 24 = .ok (.getfield 222, 3) ∧ decode cX11_fullest 27 = .ok (.getfield 239, 3) ∧ True := dkl_ok (c := cX11_fullest) [(.getfield 42, 3), (.getfield 147, 3), (.getfield 151, 3), (.if_icmp .ge 44, 3), (.aload_n 0, 1), (.getfield 42, 3), (.getfield 222, 3), (.getfield 239, 3)] 8 (by decide +kernel)
theorem dX11_fullest_8 : decode cX11_fullest 8 = .ok (.getfield 42, 3) := eX11_fullest_8.1
theorem dX11_fullest_11 : decode cX11_fullest 11 = .ok (.getfield 147, 3) := eX11_fullest_8.2.1
theorem dX11_fullest_14 : decode cX11_fullest 14 = .ok (.getfield 151, 3) := eX11_fullest_8.2.2.1
theorem dX11_fullest_17 : decode cX11_fullest 17 = .ok (.if_icmp .ge 44, 3) := eX11_fullest_8.2.2.2.1
theorem dX11_fullest_20 : decode cX11_fullest 20 = .ok (.aload_n 0, 1) := eX11_fullest_8.2.2.2.2.1
theorem dX11_fullest_21 : decode cX11_fullest 21 = .ok (.getfield 42, 3) := eX11_fullest_8.2.2.2.2.2.1
theorem dX11_fullest_24 : decode cX11_fullest 24 = .ok (.getfield 222, 3) := eX11_fullest_8.2.2.2.2.2.2.1
theorem dX11_fullest_27 : decode cX11_fullest 27 = .ok (.getfield 239, 3) := eX11_fullest_8.2.2.2.2.2.2.2.1
theorem eX11_fullest_30 : decode cX11_fullest 30 = .ok (.iload_n 3, 1) ∧ decode cX11_fullest 31 = .ok (.invokevirtual 232, 3) ∧ decode cX11_fullest 34 = .ok (.iload_n 2, 1) ∧ decode cX11_fullest 35 = .ok (.if_icmp .le 20, 3) ∧ decode cX11_fullest 38 = .ok (.aload_n 0, 1) ∧ decode cX11_fullest 39 = .ok (.getfield 42, 3) ∧ decode cX11_fullest 42 = .ok (.getfield 222, 3) ∧ decode cX11_fullest 45 = .ok (.getfield 239, 3) ∧ True := dkl_ok (c := cX11_fullest) [(.iload_n 3, 1), (.invokevirtual 232, 3), (.iload_n 2, 1), (.if_icmp .le 20, 3), (.aload_n 0, 1), (.getfield 42, 3), (.getfield 222, 3), (.getfield 239, 3)] 30 (by decide +kernel)
theorem dX11_fullest_30 : decode cX11_fullest 30 = .ok (.iload_n 3, 1) := eX11_fullest_30.1
theorem dX11_fullest_31 : decode cX11_fullest 31 = .ok (.invokevirtual 232, 3) := eX11_fullest_30.2.1
theorem dX11_fullest_34 : decode cX11_fullest 34 = .ok (.iload_n 2, 1) := eX11_fullest_30.2.2.1
theorem dX11_fullest_35 : decode cX11_fullest 35 = .ok (.if_icmp .le 20, 3) := eX11_fullest_30.2.2.2.1
theorem dX11_fullest_38 : decode cX11_fullest 38 = .ok (.aload_n 0, 1) := eX11_fullest_30.2.2.2.2.1
theorem dX11_fullest_39 : decode cX11_fullest 39 = .ok (.getfield 42, 3) := eX11_fullest_30.2.2.2.2.2.1
theorem dX11_fullest_42 : decode cX11_fullest 42 = .ok (.getfield 222, 3) := eX11_fullest_30.2.2.2.2.2.2.1
theorem dX11_fullest_45 : decode cX11_fullest 45 = .ok (.getfield 239, 3) := eX11_fullest_30.2.2.2.2.2.2.2.1
theorem eX11_fullest_48 : decode cX11_fullest 48 = .ok (.iload_n 3, 1) ∧ decode cX11_fullest 49 = .ok (.invokevirtual 232, 3) ∧ decode cX11_fullest 52 = .ok (.istore_n 2, 1) ∧ decode cX11_fullest 53 = .ok (.iload_n 3, 1) ∧ decode cX11_fullest 54 = .ok (.istore_n 1, 1) ∧ decode cX11_fullest 55 = .ok (.iinc 3 1, 3) ∧ decode cX11_fullest 58 = .ok (.goto (-52), 3) ∧ decode cX11_fullest 61 = .ok (.aload_n 0, 1) ∧ True := dkl_ok (c := cX11_fullest) [(.iload_n 3, 1), (.invokevirtual 232, 3), (.istore_n 2, 1), (.iload_n 3, 1), (.istore_n 1, 1), (.iinc 3 1, 3), (.goto (-52), 3), (.aload_n 0, 1)] 48 (by decide +kernel)
theorem dX11_fullest_48 : decode cX11_fullest 48 = .ok (.iload_n 3, 1) := eX11_fullest_48.1
theorem dX11_fullest_49 : decode cX11_fullest 49 = .ok (.invokevirtual 232, 3) := eX11_fullest_48.2.1
theorem dX11_fullest_52 : decode cX11_fullest 52 = .ok (.istore_n 2, 1) := eX11_fullest_48.2.2.1
theorem dX11_fullest_53 : decode cX11_fullest 53 = .ok (.iload_n 3, 1) := eX11_fullest_48.2.2.2.1
theorem dX11_fullest_54 : decode cX11_fullest 54 = .ok (.istore_n 1, 1) := eX11_fullest_48.2.2.2.2.1
theorem dX11_fullest_55 : decode cX11_fullest 55 = .ok (.iinc 3 1, 3) := eX11_fullest_48.2.2.2.2.2.1
theorem dX11_fullest_58 : decode cX11_fullest 58 = .ok (.goto (-52), 3) := eX11_fullest_48.2.2.2.2.2.2.1
theorem dX11_fullest_61 : decode cX11_fullest 61 = .ok (.aload_n 0, 1) := eX11_fullest_48.2.2.2.2.2.2.2.1
theorem eX11_fullest_62 : decode cX11_fullest 62 = .ok (.iload_n 1, 1) ∧ decode cX11_fullest 63 = .ok (.invokevirtual 366, 3) ∧ decode cX11_fullest 66 = .ok (.ireturn, 1) ∧ True := dkl_ok (c := cX11_fullest) [(.iload_n 1, 1), (.invokevirtual 366, 3), (.ireturn, 1)] 62 (by decide +kernel)
theorem dX11_fullest_62 : decode cX11_fullest 62 = .ok (.iload_n 1, 1) := eX11_fullest_62.1
theorem dX11_fullest_63 : decode cX11_fullest 63 = .ok (.invokevirtual 366, 3) := eX11_fullest_62.2.1
theorem dX11_fullest_66 : decode cX11_fullest 66 = .ok (.ireturn, 1) := eX11_fullest_62.2.2.1
theorem eX11_quartet_0 : decode cX11_quartet 0 = .ok (.aload_n 0, 1) ∧ decode cX11_quartet 1 = .ok (.iload_n 1, 1) ∧ decode cX11_quartet 2 = .ok (.invokevirtual 219, 3) ∧ decode cX11_quartet 5 = .ok (.ifCond .ne 9, 3) ∧ decode cX11_quartet 8 = .ok (.aload_n 0, 1) ∧ decode cX11_quartet 9 = .ok (.iconst 2, 1) ∧ decode cX11_quartet 10 = .ok (.invokevirtual 109, 3) ∧ decode cX11_quartet 13 = .ok (.ireturn, 1) ∧ True := dkl_ok (c := cX11_quartet) [(.aload_n 0, 1), (.iload_n 1, 1), (.invokevirtual 219, 3), (.ifCond .ne 9, 3), (.aload_n 0, 1), (.iconst 2, 1), (.invokevirtual 109, 3), (.ireturn, 1)] 0 (by decide +kernel)
theorem dX11_quartet_0 : decode cX11_quartet 0 = .ok (.aload_n 0, 1) := eX11_quartet_0.1
theorem dX11_quartet_1 : decode cX11_quartet 1 = .ok (.iload_n 1, 1) := eX11_quartet_0.2.1
theorem dX11_quartet_2 : decode cX11_quartet 2 = .ok (.invokevirtual 219, 3) := eX11_quartet_0.2.2.1
theorem dX11_quartet_5 : decode cX11_quartet 5 = .ok (.ifCond .ne 9, 3) := eX11_quartet_0.2.2.2.1
theorem dX11_quartet_8 : decode cX11_quartet 8 = .ok (.aload_n 0, 1) := eX11_quartet_0.2.2.2.2.1
theorem dX11_quartet_9 : decode cX11_quartet 9 = .ok (.iconst 2, 1) := eX11_quartet_0.2.2.2.2.2.1
theorem dX11_quartet_10 : decode cX11_quartet 10 = .ok (.invokevirtual 109, 3) := eX11_quartet_0.2.2.2.2.2.2.1
theorem dX11_quartet_13 : decode cX11_quartet 13 = .ok (.ireturn, 1) := eX11_quartet_0.2.2.2.2.2.2.2.1
theorem eX11_quartet_14 : decode cX11_quartet 14 = .ok (.iconst 0, 1) ∧ decode cX11_quartet 15 = .ok (.istore_n 2, 1) ∧ decode cX11_quartet 16 = .ok (.iload_n 2, 1) ∧ decode cX11_quartet 17 = .ok (.aload_n 0, 1) ∧ decode cX11_quartet 18 = .ok (.getfield 42, 3) ∧ decode cX11_quartet 21 = .ok (.getfield 147, 3) ∧ decode cX11_quartet 24 = .ok (.getfield 183, 3) ∧ decode cX11_quartet 27 = .ok (.if_icmp .ge 50, 3) ∧ True := dkl_ok (c := cX11_quartet) [(.iconst 0, 1), (.istore_n 2, 1), (.iload_n 2, 1), (.aload_n 0, 1), (.getfield 42, 3), (.getfield 147, 3), (.getfield 183, 3), (.if_icmp .ge 50, 3)] 14 (by decide +kernel)
theorem dX11_quartet_14 : decode cX11_quartet 14 = .ok (.iconst 0, 1) := eX11_quartet_14.1
theorem dX11_quartet_15 : decode cX11_quartet 15 = .ok (.istore_n 2, 1) := eX11_quartet_14.2.1
theorem dX11_quartet_16 : decode cX11_quartet 16 = .ok (.iload_n 2, 1) := eX11_quartet_14.2.2.1
theorem dX11_quartet_17 : decode cX11_quartet 17 = .ok (.aload_n 0, 1) := eX11_quartet_14.2.2.2.1
theorem dX11_quartet_18 : decode cX11_quartet 18 = .ok (.getfield 42, 3) := eX11_quartet_14.2.2.2.2.1
theorem dX11_quartet_21 : decode cX11_quartet 21 = .ok (.getfield 147, 3) := eX11_quartet_14.2.2.2.2.2.1
theorem dX11_quartet_24 : decode cX11_quartet 24 = .ok (.getfield 183, 3) := eX11_quartet_14.2.2.2.2.2.2.1
theorem dX11_quartet_27 : decode cX11_quartet 27 = .ok (.if_icmp .ge 50, 3) := eX11_quartet_14.2.2.2.2.2.2.2.1
theorem eX11_quartet_30 : decode cX11_quartet 30 = .ok (.aload_n 0, 1) ∧ decode cX11_quartet 31 = .ok (.getfield 42, 3) ∧ decode cX11_quartet 34 = .ok (.getfield 147, 3) ∧ decode cX11_quartet 37 = .ok (.getfield 257, 3) ∧ decode cX11_quartet 40 = .ok (.iload_n 2, 1) ∧ decode cX11_quartet 41 = .ok (.invokevirtual 232, 3) ∧ decode cX11_quartet 44 = .ok (.istore_n 3, 1) ∧ decode cX11_quartet 45 = .ok (.iload_n 3, 1) ∧ True := dkl_ok (c := cX11_quartet) [(.aload_n 0, 1), (.getfield 42, 3), (.getfield 147, 3), (.getfield 257, 3), (.iload_n 2, 1), (.invokevirtual 232, 3), (.istore_n 3, 1), (.iload_n 3, 1)] 30 (by decide +kernel)
theorem dX11_quartet_30 : decode cX11_quartet 30 = .ok (.aload_n 0, 1) := eX11_quartet_30.1
theorem dX11_quartet_31 : decode cX11_quartet 31 = .ok (.getfield 42, 3) := eX11_quartet_30.2.1
theorem dX11_quartet_34 : decode cX11_quartet 34 = .ok (.getfield 147, 3) := eX11_quartet_30.2.2.1
theorem dX11_quartet_37 : decode cX11_quartet 37 = .ok (.getfield 257, 3) := eX11_quartet_30.2.2.2.1
theorem dX11_quartet_40 : decode cX11_quartet 40 = .ok (.iload_n 2, 1) := eX11_quartet_30.2.2.2.2.1
theorem dX11_quartet_41 : decode cX11_quartet 41 = .ok (.invokevirtual 232, 3) := eX11_quartet_30.2.2.2.2.2.1
theorem dX11_quartet_44 : decode cX11_quartet 44 = .ok (.istore_n 3, 1) := eX11_quartet_30.2.2.2.2.2.2.1
theorem dX11_quartet_45 : decode cX11_quartet 45 = .ok (.iload_n 3, 1) := eX11_quartet_30.2.2.2.2.2.2.2.1
theorem eX11_quartet_46 : decode cX11_quartet 46 = .ok (.ifCond .le 25, 3) ∧ decode cX11_quartet 49 = .ok (.aload_n 0, 1) ∧ decode cX11_quartet 50 = .ok (.getfield 42, 3) ∧ decode cX11_quartet 53 = .ok (.getfield 222, 3) ∧ decode cX11_quartet 56 = .ok (.iload_n 1, 1) ∧ decode cX11_quartet 57 = .ok (.iload_n 2, 1) ∧ decode cX11_quartet 58 = .ok (.invokevirtual 253, 3) ∧ decode cX11_quartet 61 = .ok (.iload_n 3, 1) ∧ True := dkl_ok (c := cX11_quartet) [(.ifCond .le 25, 3), (.aload_n 0, 1), (.getfield 42, 3), (.getfield 222, 3), (.iload_n 1, 1), (.iload_n 2, 1), (.invokevirtual 253, 3), (.iload_n 3, 1)] 46 (by decide +kernel)
theorem dX11_quartet_46 : decode cX11_quartet 46 = .ok (.ifCond .le 25, 3) := eX11_quartet_46.1
theorem dX11_quartet_49 : decode cX11_quartet 49 = .ok (.aload_n 0, 1) := eX11_quartet_46.2.1
theorem dX11_quartet_50 : decode cX11_quartet 50 = .ok (.getfield 42, 3) := eX11_quartet_46.2.2.1
theorem dX11_quartet_53 : decode cX11_quartet 53 = .ok (.getfield 222, 3) := eX11_quartet_46.2.2.2.1
theorem dX11_quartet_56 : decode cX11_quartet 56 = .ok (.iload_n 1, 1) := eX11_quartet_46.2.2.2.2.1
theorem dX11_quartet_57 : decode cX11_quartet 57 = .ok (.iload_n 2, 1) := eX11_quartet_46.2.2.2.2.2.1
theorem dX11_quartet_58 : decode cX11_quartet 58 = .ok (.invokevirtual 253, 3) := eX11_quartet_46.2.2.2.2.2.2.1
theorem dX11_quartet_61 : decode cX11_quartet 61 = .ok (.iload_n 3, 1) := eX11_quartet_46.2.2.2.2.2.2.2.1
theorem eX11_quartet_62 : decode cX11_quartet 62 = .ok (.if_icmp .ne 9, 3) ∧ decode cX11_quartet 65 = .ok (.aload_n 0, 1) ∧ decode cX11_quartet 66 = .ok (.iload_n 2, 1) ∧ decode cX11_quartet 67 = .ok (.invokevirtual 156, 3) ∧ decode cX11_quartet 70 = .ok (.ireturn, 1) ∧ decode cX11_quartet 71 = .ok (.iinc 2 1, 3) ∧ decode cX11_quartet 74 = .ok (.goto (-58), 3) ∧ decode cX11_quartet 77 = .ok (.aload_n 0, 1) ∧ True := dkl_ok (c := cX11_quartet) [(.if_icmp .ne 9, 3), (.aload_n 0, 1), (.iload_n 2, 1), (.invokevirtual 156, 3), (.ireturn, 1), (.iinc 2 1, 3), (.goto (-58), 3), (.aload_n 0, 1)] 62 (by decide +kernel)
theorem dX11_quartet_62 : decode cX11_quartet 62 = .ok (.if_icmp .ne 9, 3) := eX11_quartet_62.1
theorem dX11_quartet_65 : decode cX11_quartet 65 = .ok (.aload_n 0, 1) := eX11_quartet_62.2.1
theorem dX11_quartet_66 : decode cX11_quartet 66 = .ok (.iload_n 2, 1) := eX11_quartet_62.2.2.1
theorem dX11_quartet_67 : decode cX11_quartet 67 = .ok (.invokevirtual 156, 3) := eX11_quartet_62.2.2.2.1
theorem dX11_quartet_70 : decode cX11_quartet 70 = .ok (.ireturn, 1) := eX11_quartet_62.2.2.2.2.1
theorem dX11_quartet_71 : decode cX11_quartet 71 = .ok (.iinc 2 1, 3) := eX11_quartet_62.2.2.2.2.2.1
theorem dX11_quartet_74 : decode cX11_quartet 74 = .ok (.goto (-58), 3) := eX11_quartet_62.2.2.2.2.2.2.1
theorem dX11_quartet_77 : decode cX11_quartet 77 = .ok (.aload_n 0, 1) := eX11_quartet_62.2.2.2.2.2.2.2.1
theorem eX11_quartet_78 : decode cX11_quartet 78 = .ok (.bipush 8, 2) ∧ decode cX11_quartet 80 = .ok (.invokevirtual 109, 3) ∧ decode cX11_quartet 83 = .ok (.ireturn, 1) ∧ True := dkl_ok (c := cX11_quartet) [(.bipush 8, 2), (.invokevirtual 109, 3), (.ireturn, 1)] 78 (by decide +kernel)
theorem dX11_quartet_78 : decode cX11_quartet 78 = .ok (.bipush 8, 2) := eX11_quartet_78.1
theorem dX11_quartet_80 : decode cX11_quartet 80 = .ok (.invokevirtual 109, 3) := eX11_quartet_78.2.1
theorem dX11_quartet_83 : decode cX11_quartet 83 = .ok (.ireturn, 1) := eX11_quartet_78.2.2.1
theorem eX11_sorts_0 : decode cX11_sorts 0 = .ok (.iload_n 1, 1) ∧ decode cX11_sorts 1 = .ok (.ifCond .lt 8, 3) ∧ decode cX11_sorts 4 = .ok (.iload_n 1, 1) ∧ decode cX11_sorts 5 = .ok (.iconst 2, 1) ∧ decode cX11_sorts 6 = .ok (.if_icmp .le 9, 3) ∧ decode cX11_sorts 9 = .ok (.aload_n 0, 1) ∧ decode cX11_sorts 10 = .ok (.iconst 5, 1) ∧ decode cX11_sorts 11 = .ok (.invokevirtual 109, 3) ∧ True := dkl_ok (c := cX11_sorts) [(.iload_n 1, 1), (.ifCond .lt 8, 3), (.iload_n 1, 1), (.iconst 2, 1), (.if_icmp .le 9, 3), (.aload_n 0, 1), (.iconst 5, 1), (.invokevirtual 109, 3)] 0 (by decide +kernel)
theorem dX11_sorts_0 : decode cX11_sorts 0 = .ok (.iload_n 1, 1) := eX11_sorts_0.1
theorem dX11_sorts_1 : decode cX11_sorts 1 = .ok (.ifCond .lt 8, 3) := eX11_sorts_0.2.1
theorem dX11_sorts_4 : decode cX11_sorts 4 = .ok (.iload_n 1, 1) := eX11_sorts_0.2.2.1
theorem dX11_sorts_5 : decode cX11_sorts 5 = .ok (.iconst 2, 1) := eX11_sorts_0.2.2.2.1
theorem dX11_sorts_6 : decode cX11_sorts 6 = .ok (.if_icmp .le 9, 3) := eX11_sorts_0.2.2.2.2.1
theorem dX11_sorts_9 : decode cX11_sorts 9 = .ok (.aload_n 0, 1) := eX11_sorts_0.2.2.2.2.2.1
theorem dX11_sorts_10 : decode cX11_sorts 10 = .ok (.iconst 5, 1) := eX11_sorts_0.2.2.2.2.2.2.1
theorem dX11_sorts_11 : decode cX11_sorts 11 = .ok (.invokevirtual 109, 3) := eX11_sorts_0.2.2.2.2.2.2.2.1
theorem eX11_sorts_14 : decode cX11_sorts 14 = .ok (.ireturn, 1) ∧ decode cX11_sorts 15 = .ok (.iconst 0, 1) ∧ decode cX11_sorts 16 = .ok (.istore_n 2, 1) ∧ decode cX11_sorts 17 = .ok (.iconst 0, 1) ∧ decode cX11_sorts 18 = .ok (.istore_n 3, 1) ∧ decode cX11_sorts 19 = .ok (.iload_n 3, 1) ∧ decode cX11_sorts 20 = .ok (.aload_n 0, 1) ∧ decode cX11_sorts 21 = .ok (.getfield 42, 3) ∧ True := dkl_ok (c := cX11_sorts) [(.ireturn, 1), (.iconst 0, 1), (.istore_n 2, 1), (.iconst 0, 1), (.istore_n 3, 1), (.iload_n 3, 1), (.aload_n 0, 1), (.getfield 42, 3)] 14 (by decide +kernel)
theorem dX11_sorts_14 : decode cX11_sorts 14 = .ok (.ireturn, 1) := eX11_sorts_14.1
theorem dX11_sorts_15 : decode cX11_sorts 15 = .ok (.iconst 0, 1) := eX11_sorts_14.2.1
theorem dX11_sorts_16 : decode cX11_sorts 16 = .ok (.istore_n 2, 1) := eX11_sorts_14.2.2.1
theorem dX11_sorts_17 : decode cX11_sorts 17 = .ok (.iconst 0, 1) := eX11_sorts_14.2.2.2.1
theorem dX11_sorts_18 : decode cX11_sorts 18 = .ok (.istore_n 3, 1) := eX11_sorts_14.2.2.2.2.1
theorem dX11_sorts_19 : decode cX11_sorts 19 = .ok (.iload_n 3, 1) := eX11_sorts_14.2.2.2.2.2.1
theorem dX11_sorts_20 : decode cX11_sorts 20 = .ok (.aload_n 0, 1) := eX11_sorts_14.2.2.2.2.2.2.1
theorem dX11_sorts_21 : decode cX11_sorts 21 = .ok (.getfield 42, 3) := eX11_sorts_14.2.2.2.2.2.2.2.1
theorem eX11_sorts_24 : decode cX11_sorts 24 = .ok (.getfield 201, 3) ∧ decode cX11_sorts 27 = .ok (.getfield 216, 3) ∧ decode cX11_sorts 30 = .ok (.if_icmp .ge 27, 3) ∧ decode cX11_sorts 33 = .ok (.aload_n 0, 1) ∧ decode cX11_sorts 34 = .ok (.getfield 42, 3) ∧ decode cX11_sorts 37 = .ok (.getfield 201, 3) ∧ decode cX11_sorts 40 = .ok (.iload_n 3, 1) ∧ decode cX11_sorts 41 = .ok (.invokevirtual 269, 3) ∧ True := dkl_ok (c := cX11_sorts) [(.getfield 201, 3), (.getfield 216, 3), (.if_icmp .ge 27, 3), (.aload_n 0, 1), (.getfield 42, 3), (.getfield 201, 3), (.iload_n 3, 1), (.invokevirtual 269, 3)] 24 (by decide +kernel)
theorem dX11_sorts_24 : decode cX11_sorts 24 = .ok (.getfield 201, 3) := eX11_sorts_24.1
theorem dX11_sorts_27 : decode cX11_sorts 27 = .ok (.getfield 216, 3) := eX11_sorts_24.2.1
theorem dX11_sorts_30 : decode cX11_sorts 30 = .ok (.if_icmp .ge 27, 3) := eX11_sorts_24.2.2.1
theorem dX11_sorts_33 : decode cX11_sorts 33 = .ok (.aload_n 0, 1) := eX11_sorts_24.2.2.2.1
theorem dX11_sorts_34 : decode cX11_sorts 34 = .ok (.getfield 42, 3) := eX11_sorts_24.2.2.2.2.1
theorem dX11_sorts_37 : decode cX11_sorts 37 = .ok (.getfield 201, 3) := eX11_sorts_24.2.2.2.2.2.1
theorem dX11_sorts_40 : decode cX11_sorts 40 = .ok (.iload_n 3, 1) := eX11_sorts_24.2.2.2.2.2.2.1
theorem dX11_sorts_41 : decode cX11_sorts 41 = .ok (.invokevirtual 269, 3) := eX11_sorts_24.2.2.2.2.2.2.2.1
theorem eX11_sorts_44 : decode cX11_sorts 44 = .ok (.iload_n 1, 1) ∧ decode cX11_sorts 45 = .ok (.if_icmp .ne 6, 3) ∧ decode cX11_sorts 48 = .ok (.iinc 2 1, 3) ∧ decode cX11_sorts 51 = .ok (.iinc 3 1, 3) ∧ decode cX11_sorts 54 = .ok (.goto (-35), 3) ∧ decode cX11_sorts 57 = .ok (.aload_n 0, 1) ∧ decode cX11_sorts 58 = .ok (.iload_n 2, 1) ∧ decode cX11_sorts 59 = .ok (.invokevirtual 156, 3) ∧ True := dkl_ok (c := cX11_sorts) [(.iload_n 1, 1), (.if_icmp .ne 6, 3), (.iinc 2 1, 3), (.iinc 3 1, 3), (.goto (-35), 3), (.aload_n 0, 1), (.iload_n 2, 1), (.invokevirtual 156, 3)] 44 (by decide +kernel)
theorem dX11_sorts_44 : decode cX11_sorts 44 = .ok (.iload_n 1, 1) := eX11_sorts_44.1
theorem dX11_sorts_45 : decode cX11_sorts 45 = .ok (.if_icmp .ne 6, 3) := eX11_sorts_44.2.1
theorem dX11_sorts_48 : decode cX11_sorts 48 = .ok (.iinc 2 1, 3) := eX11_sorts_44.2.2.1
theorem dX11_sorts_51 : decode cX11_sorts 51 = .ok (.iinc 3 1, 3) := eX11_sorts_44.2.2.2.1
theorem dX11_sorts_54 : decode cX11_sorts 54 = .ok (.goto (-35), 3) := eX11_sorts_44.2.2.2.2.1
theorem dX11_sorts_57 : decode cX11_sorts 57 = .ok (.aload_n 0, 1) := eX11_sorts_44.2.2.2.2.2.1
theorem dX11_sorts_58 : decode cX11_sorts 58 = .ok (.iload_n 2, 1) := eX11_sorts_44.2.2.2.2.2.2.1
theorem dX11_sorts_59 : decode cX11_sorts 59 = .ok (.invokevirtual 156, 3) := eX11_sorts_44.2.2.2.2.2.2.2.1
theorem eX11_sorts_62 : decode cX11_sorts 62 = .ok (.ireturn, 1) ∧ True := dkl_ok (c := cX11_sorts) [(.ireturn, 1)] 62 (by decide +kernel)
theorem dX11_sorts_62 : decode cX11_sorts 62 = .ok (.ireturn, 1) := eX11_sorts_62.1
theorem eX11_liar_0 : decode cX11_liar 0 = .ok (.aload_n 0, 1) ∧ decode cX11_liar 1 = .ok (.getfield 42, 3) ∧ decode cX11_liar 4 = .ok (.getfield 222, 3) ∧ decode cX11_liar 7 = .ok (.astore_n 1, 1) ∧ decode cX11_liar 8 = .ok (.aload_n 0, 1) ∧ decode cX11_liar 9 = .ok (.getfield 42, 3) ∧ decode cX11_liar 12 = .ok (.getfield 147, 3) ∧ decode cX11_liar 15 = .ok (.getfield 151, 3) ∧ True := dkl_ok (c := cX11_liar) [(.aload_n 0, 1), (.getfield 42, 3), (.getfield 222, 3), (.astore_n 1, 1), (.aload_n 0, 1), (.getfield 42, 3), (.getfield 147, 3), (.getfield 151, 3)] 0 (by decide +kernel)
theorem dX11_liar_0 : decode cX11_liar 0 = .ok (.aload_n 0, 1) := eX11_liar_0.1
theorem dX11_liar_1 : decode cX11_liar 1 = .ok (.getfield 42, 3) := eX11_liar_0.2.1
theorem dX11_liar_4 : decode cX11_liar 4 = .ok (.getfield 222, 3) := eX11_liar_0.2.2.1
theorem dX11_liar_7 : decode cX11_liar 7 = .ok (.astore_n 1, 1) := eX11_liar_0.2.2.2.1
theorem dX11_liar_8 : decode cX11_liar 8 = .ok (.aload_n 0, 1) := eX11_liar_0.2.2.2.2.1
theorem dX11_liar_9 : decode cX11_liar 9 = .ok (.getfield 42, 3) := eX11_liar_0.2.2.2.2.2.1
theorem dX11_liar_12 : decode cX11_liar 12 = .ok (.getfield 147, 3) := eX11_liar_0.2.2.2.2.2.2.1
theorem dX11_liar_15 : decode cX11_liar 15 = .ok (.getfield 151, 3) := eX11_liar_0.2.2.2.2.2.2.2.1
theorem eX11_liar_18 : decode cX11_liar 18 = .ok (.ifCond .ne 7, 3) ∧ decode cX11_liar 21 = .ok (.iconst (-1), 1) ∧ decode cX11_liar 22 = .ok (.goto 4, 3) ∧ decode cX11_liar 25 = .ok (.iconst 0, 1) ∧ decode cX11_liar 26 = .ok (.istore_n 2, 1) ∧ decode cX11_liar 27 = .ok (.iconst 1, 1) ∧ decode cX11_liar 28 = .ok (.istore_n 3, 1) ∧ decode cX11_liar 29 = .ok (.iload_n 3, 1) ∧ True := dkl_ok (c := cX11_liar) [(.ifCond .ne 7, 3), (.iconst (-1), 1), (.goto 4, 3), (.iconst 0, 1), (.istore_n 2, 1), (.iconst 1, 1), (.istore_n 3, 1), (.iload_n 3, 1)] 18 (by decide +kernel)
theorem dX11_liar_18 : decode cX11_liar 18 = .ok (.ifCond .ne 7, 3) := eX11_liar_18.1
theorem dX11_liar_21 : decode cX11_liar 21 = .ok (.iconst (-1), 1) := eX11_liar_18.2.1
theorem dX11_liar_22 : decode cX11_liar 22 = .ok (.goto 4, 3) := eX11_liar_18.2.2.1
theorem dX11_liar_25 : decode cX11_liar 25 = .ok (.iconst 0, 1) := eX11_liar_18.2.2.2.1
theorem dX11_liar_26 : decode cX11_liar 26 = .ok (.istore_n 2, 1) := eX11_liar_18.2.2.2.2.1
theorem dX11_liar_27 : decode cX11_liar 27 = .ok (.iconst 1, 1) := eX11_liar_18.2.2.2.2.2.1
theorem dX11_liar_28 : decode cX11_liar 28 = .ok (.istore_n 3, 1) := eX11_liar_18.2.2.2.2.2.2.1
theorem dX11_liar_29 : decode cX11_liar 29 = .ok (.iload_n 3, 1) := eX11_liar_18.2.2.2.2.2.2.2.1
theorem eX11_liar_30 : decode cX11_liar 30 = .ok (.aload_n 0, 1) ∧ decode cX11_liar 31 = .ok (.getfield 42, 3) ∧ decode cX11_liar 34 = .ok (.getfield 147, 3) ∧ decode cX11_liar 37 = .ok (.getfield 151, 3) ∧ decode cX11_liar 40 = .ok (.if_icmp .ge 37, 3) ∧ decode cX11_liar 43 = .ok (.aload_n 1, 1) ∧ decode cX11_liar 44 = .ok (.iload_n 3, 1) ∧ decode cX11_liar 45 = .ok (.invokevirtual 330, 3) ∧ True := dkl_ok (c := cX11_liar) [(.aload_n 0, 1), (.getfield 42, 3), (.getfield 147, 3), (.getfield 151, 3), (.if_icmp .ge 37, 3), (.aload_n 1, 1), (.iload_n 3, 1), (.invokevirtual 330, 3)] 30 (by decide +kernel)
theorem dX11_liar_30 : decode cX11_liar 30 = .ok (.aload_n 0, 1) := eX11_liar_30.1
theorem dX11_liar_31 : decode cX11_liar 31 = .ok (.getfield 42, 3) := eX11_liar_30.2.1
theorem dX11_liar_34 : decode cX11_liar 34 = .ok (.getfield 147, 3) := eX11_liar_30.2.2.1
theorem dX11_liar_37 : decode cX11_liar 37 = .ok (.getfield 151, 3) := eX11_liar_30.2.2.2.1
theorem dX11_liar_40 : decode cX11_liar 40 = .ok (.if_icmp .ge 37, 3) := eX11_liar_30.2.2.2.2.1
theorem dX11_liar_43 : decode cX11_liar 43 = .ok (.aload_n 1, 1) := eX11_liar_30.2.2.2.2.2.1
theorem dX11_liar_44 : decode cX11_liar 44 = .ok (.iload_n 3, 1) := eX11_liar_30.2.2.2.2.2.2.1
theorem dX11_liar_45 : decode cX11_liar 45 = .ok (.invokevirtual 330, 3) := eX11_liar_30.2.2.2.2.2.2.2.1
theorem eX11_liar_48 : decode cX11_liar 48 = .ok (.aload_n 1, 1) ∧ decode cX11_liar 49 = .ok (.iload_n 2, 1) ∧ decode cX11_liar 50 = .ok (.invokevirtual 333, 3) ∧ decode cX11_liar 53 = .ok (.lmul, 1) ∧ decode cX11_liar 54 = .ok (.aload_n 1, 1) ∧ decode cX11_liar 55 = .ok (.iload_n 2, 1) ∧ decode cX11_liar 56 = .ok (.invokevirtual 330, 3) ∧ decode cX11_liar 59 = .ok (.aload_n 1, 1) ∧ True := dkl_ok (c := cX11_liar) [(.aload_n 1, 1), (.iload_n 2, 1), (.invokevirtual 333, 3), (.lmul, 1), (.aload_n 1, 1), (.iload_n 2, 1), (.invokevirtual 330, 3), (.aload_n 1, 1)] 48 (by decide +kernel)
theorem dX11_liar_48 : decode cX11_liar 48 = .ok (.aload_n 1, 1) := eX11_liar_48.1
theorem dX11_liar_49 : decode cX11_liar 49 = .ok (.iload_n 2, 1) := eX11_liar_48.2.1
theorem dX11_liar_50 : decode cX11_liar 50 = .ok (.invokevirtual 333, 3) := eX11_liar_48.2.2.1
theorem dX11_liar_53 : decode cX11_liar 53 = .ok (.lmul, 1) := eX11_liar_48.2.2.2.1
theorem dX11_liar_54 : decode cX11_liar 54 = .ok (.aload_n 1, 1) := eX11_liar_48.2.2.2.2.1
theorem dX11_liar_55 : decode cX11_liar 55 = .ok (.iload_n 2, 1) := eX11_liar_48.2.2.2.2.2.1
theorem dX11_liar_56 : decode cX11_liar 56 = .ok (.invokevirtual 330, 3) := eX11_liar_48.2.2.2.2.2.2.1
theorem dX11_liar_59 : decode cX11_liar 59 = .ok (.aload_n 1, 1) := eX11_liar_48.2.2.2.2.2.2.2.1
theorem eX11_liar_60 : decode cX11_liar 60 = .ok (.iload_n 3, 1) ∧ decode cX11_liar 61 = .ok (.invokevirtual 333, 3) ∧ decode cX11_liar 64 = .ok (.lmul, 1) ∧ decode cX11_liar 65 = .ok (.lcmp, 1) ∧ decode cX11_liar 66 = .ok (.ifCond .ge 5, 3) ∧ decode cX11_liar 69 = .ok (.iload_n 3, 1) ∧ decode cX11_liar 70 = .ok (.istore_n 2, 1) ∧ decode cX11_liar 71 = .ok (.iinc 3 1, 3) ∧ True := dkl_ok (c := cX11_liar) [(.iload_n 3, 1), (.invokevirtual 333, 3), (.lmul, 1), (.lcmp, 1), (.ifCond .ge 5, 3), (.iload_n 3, 1), (.istore_n 2, 1), (.iinc 3 1, 3)] 60 (by decide +kernel)
theorem dX11_liar_60 : decode cX11_liar 60 = .ok (.iload_n 3, 1) := eX11_liar_60.1
theorem dX11_liar_61 : decode cX11_liar 61 = .ok (.invokevirtual 333, 3) := eX11_liar_60.2.1
theorem dX11_liar_64 : decode cX11_liar 64 = .ok (.lmul, 1) := eX11_liar_60.2.2.1
theorem dX11_liar_65 : decode cX11_liar 65 = .ok (.lcmp, 1) := eX11_liar_60.2.2.2.1
theorem dX11_liar_66 : decode cX11_liar 66 = .ok (.ifCond .ge 5, 3) := eX11_liar_60.2.2.2.2.1
theorem dX11_liar_69 : decode cX11_liar 69 = .ok (.iload_n 3, 1) := eX11_liar_60.2.2.2.2.2.1
theorem dX11_liar_70 : decode cX11_liar 70 = .ok (.istore_n 2, 1) := eX11_liar_60.2.2.2.2.2.2.1
theorem dX11_liar_71 : decode cX11_liar 71 = .ok (.iinc 3 1, 3) := eX11_liar_60.2.2.2.2.2.2.2.1
theorem eX11_liar_74 : decode cX11_liar 74 = .ok (.goto (-45), 3) ∧ decode cX11_liar 77 = .ok (.aload_n 0, 1) ∧ decode cX11_liar 78 = .ok (.iload_n 2, 1) ∧ decode cX11_liar 79 = .ok (.invokevirtual 366, 3) ∧ decode cX11_liar 82 = .ok (.ireturn, 1) ∧ True := dkl_ok (c := cX11_liar) [(.goto (-45), 3), (.aload_n 0, 1), (.iload_n 2, 1), (.invokevirtual 366, 3), (.ireturn, 1)] 74 (by decide +kernel)
theorem dX11_liar_74 : decode cX11_liar 74 = .ok (.goto (-45), 3) := eX11_liar_74.1
theorem dX11_liar_77 : decode cX11_liar 77 = .ok (.aload_n 0, 1) := eX11_liar_74.2.1
theorem dX11_liar_78 : decode cX11_liar 78 = .ok (.iload_n 2, 1) := eX11_liar_74.2.2.1
theorem dX11_liar_79 : decode cX11_liar 79 = .ok (.invokevirtual 366, 3) := eX11_liar_74.2.2.2.1
theorem dX11_liar_82 : decode cX11_liar 82 = .ok (.ireturn, 1) := eX11_liar_74.2.2.2.2.1
theorem eX11_play_0 : decode cX11_play 0 = .ok (.iload_n 1, 1) ∧ decode cX11_play 1 = .ok (.ifCond .lt 10, 3) ∧ decode cX11_play 4 = .ok (.iload_n 1, 1) ∧ decode cX11_play 5 = .ok (.sipush 9999, 3) ∧ decode cX11_play 8 = .ok (.if_icmp .le 9, 3) ∧ decode cX11_play 11 = .ok (.aload_n 0, 1) ∧ decode cX11_play 12 = .ok (.iconst 5, 1) ∧ decode cX11_play 13 = .ok (.invokevirtual 109, 3) ∧ True := dkl_ok (c := cX11_play) [(.iload_n 1, 1), (.ifCond .lt 10, 3), (.iload_n 1, 1), (.sipush 9999, 3), (.if_icmp .le 9, 3), (.aload_n 0, 1), (.iconst 5, 1), (.invokevirtual 109, 3)] 0 (by decide +kernel)
theorem dX11_play_0 : decode cX11_play 0 = .ok (.iload_n 1, 1) := eX11_play_0.1
theorem dX11_play_1 : decode cX11_play 1 = .ok (.ifCond .lt 10, 3) := eX11_play_0.2.1
theorem dX11_play_4 : decode cX11_play 4 = .ok (.iload_n 1, 1) := eX11_play_0.2.2.1
theorem dX11_play_5 : decode cX11_play 5 = .ok (.sipush 9999, 3) := eX11_play_0.2.2.2.1
theorem dX11_play_8 : decode cX11_play 8 = .ok (.if_icmp .le 9, 3) := eX11_play_0.2.2.2.2.1
theorem dX11_play_11 : decode cX11_play 11 = .ok (.aload_n 0, 1) := eX11_play_0.2.2.2.2.2.1
theorem dX11_play_12 : decode cX11_play 12 = .ok (.iconst 5, 1) := eX11_play_0.2.2.2.2.2.2.1
theorem dX11_play_13 : decode cX11_play 13 = .ok (.invokevirtual 109, 3) := eX11_play_0.2.2.2.2.2.2.2.1
theorem eX11_play_16 : decode cX11_play 16 = .ok (.ireturn, 1) ∧ decode cX11_play 17 = .ok (.aload_n 0, 1) ∧ decode cX11_play 18 = .ok (.getfield 42, 3) ∧ decode cX11_play 21 = .ok (.getfield 162, 3) ∧ decode cX11_play 24 = .ok (.getfield 396, 3) ∧ decode cX11_play 27 = .ok (.ifCond .ne 10, 3) ∧ decode cX11_play 30 = .ok (.aload_n 0, 1) ∧ decode cX11_play 31 = .ok (.bipush 8, 2) ∧ True := dkl_ok (c := cX11_play) [(.ireturn, 1), (.aload_n 0, 1), (.getfield 42, 3), (.getfield 162, 3), (.getfield 396, 3), (.ifCond .ne 10, 3), (.aload_n 0, 1), (.bipush 8, 2)] 16 (by decide +kernel)
theorem dX11_play_16 : decode cX11_play 16 = .ok (.ireturn, 1) := eX11_play_16.1
theorem dX11_play_17 : decode cX11_play 17 = .ok (.aload_n 0, 1) := eX11_play_16.2.1
theorem dX11_play_18 : decode cX11_play 18 = .ok (.getfield 42, 3) := eX11_play_16.2.2.1
theorem dX11_play_21 : decode cX11_play 21 = .ok (.getfield 162, 3) := eX11_play_16.2.2.2.1
theorem dX11_play_24 : decode cX11_play 24 = .ok (.getfield 396, 3) := eX11_play_16.2.2.2.2.1
theorem dX11_play_27 : decode cX11_play 27 = .ok (.ifCond .ne 10, 3) := eX11_play_16.2.2.2.2.2.1
theorem dX11_play_30 : decode cX11_play 30 = .ok (.aload_n 0, 1) := eX11_play_16.2.2.2.2.2.2.1
theorem dX11_play_31 : decode cX11_play 31 = .ok (.bipush 8, 2) := eX11_play_16.2.2.2.2.2.2.2.1
theorem eX11_play_33 : decode cX11_play 33 = .ok (.invokevirtual 109, 3) ∧ decode cX11_play 36 = .ok (.ireturn, 1) ∧ decode cX11_play 37 = .ok (.aload_n 0, 1) ∧ decode cX11_play 38 = .ok (.getfield 73, 3) ∧ decode cX11_play 41 = .ok (.aload_n 0, 1) ∧ decode cX11_play 42 = .ok (.getfield 42, 3) ∧ decode cX11_play 45 = .ok (.iload_n 1, 1) ∧ decode cX11_play 46 = .ok (.invokevirtual 399, 3) ∧ True := dkl_ok (c := cX11_play) [(.invokevirtual 109, 3), (.ireturn, 1), (.aload_n 0, 1), (.getfield 73, 3), (.aload_n 0, 1), (.getfield 42, 3), (.iload_n 1, 1), (.invokevirtual 399, 3)] 33 (by decide +kernel)
theorem dX11_play_33 : decode cX11_play 33 = .ok (.invokevirtual 109, 3) := eX11_play_33.1
theorem dX11_play_36 : decode cX11_play 36 = .ok (.ireturn, 1) := eX11_play_33.2.1
theorem dX11_play_37 : decode cX11_play 37 = .ok (.aload_n 0, 1) := eX11_play_33.2.2.1
theorem dX11_play_38 : decode cX11_play 38 = .ok (.getfield 73, 3) := eX11_play_33.2.2.2.1
theorem dX11_play_41 : decode cX11_play 41 = .ok (.aload_n 0, 1) := eX11_play_33.2.2.2.2.1
theorem dX11_play_42 : decode cX11_play 42 = .ok (.getfield 42, 3) := eX11_play_33.2.2.2.2.2.1
theorem dX11_play_45 : decode cX11_play 45 = .ok (.iload_n 1, 1) := eX11_play_33.2.2.2.2.2.2.1
theorem dX11_play_46 : decode cX11_play 46 = .ok (.invokevirtual 399, 3) := eX11_play_33.2.2.2.2.2.2.2.1
theorem eX11_play_49 : decode cX11_play 49 = .ok (.aload_n 0, 1) ∧ decode cX11_play 50 = .ok (.iconst 1, 1) ∧ decode cX11_play 51 = .ok (.putfield 80, 3) ∧ decode cX11_play 54 = .ok (.aload_n 0, 1) ∧ decode cX11_play 55 = .ok (.aload_n 0, 1) ∧ decode cX11_play 56 = .ok (.getfield 73, 3) ∧ decode cX11_play 59 = .ok (.getfield 403, 3) ∧ decode cX11_play 62 = .ok (.invokevirtual 156, 3) ∧ True := dkl_ok (c := cX11_play) [(.aload_n 0, 1), (.iconst 1, 1), (.putfield 80, 3), (.aload_n 0, 1), (.aload_n 0, 1), (.getfield 73, 3), (.getfield 403, 3), (.invokevirtual 156, 3)] 49 (by decide +kernel)
theorem dX11_play_49 : decode cX11_play 49 = .ok (.aload_n 0, 1) := eX11_play_49.1
theorem dX11_play_50 : decode cX11_play 50 = .ok (.iconst 1, 1) := eX11_play_49.2.1
theorem dX11_play_51 : decode cX11_play 51 = .ok (.putfield 80, 3) := eX11_play_49.2.2.1
theorem dX11_play_54 : decode cX11_play 54 = .ok (.aload_n 0, 1) := eX11_play_49.2.2.2.1
theorem dX11_play_55 : decode cX11_play 55 = .ok (.aload_n 0, 1) := eX11_play_49.2.2.2.2.1
theorem dX11_play_56 : decode cX11_play 56 = .ok (.getfield 73, 3) := eX11_play_49.2.2.2.2.2.1
theorem dX11_play_59 : decode cX11_play 59 = .ok (.getfield 403, 3) := eX11_play_49.2.2.2.2.2.2.1
theorem dX11_play_62 : decode cX11_play 62 = .ok (.invokevirtual 156, 3) := eX11_play_49.2.2.2.2.2.2.2.1
theorem eX11_play_65 : decode cX11_play 65 = .ok (.ireturn, 1) ∧ True := dkl_ok (c := cX11_play) [(.ireturn, 1)] 65 (by decide +kernel)
theorem dX11_play_65 : decode cX11_play 65 = .ok (.ireturn, 1) := eX11_play_65.1
theorem eX11_played_0 : decode cX11_played 0 = .ok (.iload_n 1, 1) ∧ decode cX11_played 1 = .ok (.ifCond .lt 8, 3) ∧ decode cX11_played 4 = .ok (.iload_n 1, 1) ∧ decode cX11_played 5 = .ok (.iconst 4, 1) ∧ decode cX11_played 6 = .ok (.if_icmp .le 9, 3) ∧ decode cX11_played 9 = .ok (.aload_n 0, 1) ∧ decode cX11_played 10 = .ok (.iconst 5, 1) ∧ decode cX11_played 11 = .ok (.invokevirtual 109, 3) ∧ True := dkl_ok (c := cX11_played) [(.iload_n 1, 1), (.ifCond .lt 8, 3), (.iload_n 1, 1), (.iconst 4, 1), (.if_icmp .le 9, 3), (.aload_n 0, 1), (.iconst 5, 1), (.invokevirtual 109, 3)] 0 (by decide +kernel)
theorem dX11_played_0 : decode cX11_played 0 = .ok (.iload_n 1, 1) := eX11_played_0.1
theorem dX11_played_1 : decode cX11_played 1 = .ok (.ifCond .lt 8, 3) := eX11_played_0.2.1
theorem dX11_played_4 : decode cX11_played 4 = .ok (.iload_n 1, 1) := eX11_played_0.2.2.1
theorem dX11_played_5 : decode cX11_played 5 = .ok (.iconst 4, 1) := eX11_played_0.2.2.2.1
theorem dX11_played_6 : decode cX11_played 6 = .ok (.if_icmp .le 9, 3) := eX11_played_0.2.2.2.2.1
theorem dX11_played_9 : decode cX11_played 9 = .ok (.aload_n 0, 1) := eX11_played_0.2.2.2.2.2.1
theorem dX11_played_10 : decode cX11_played 10 = .ok (.iconst 5, 1) := eX11_played_0.2.2.2.2.2.2.1
theorem dX11_played_11 : decode cX11_played 11 = .ok (.invokevirtual 109, 3) := eX11_played_0.2.2.2.2.2.2.2.1
theorem eX11_played_14 : decode cX11_played 14 = .ok (.ireturn, 1) ∧ decode cX11_played 15 = .ok (.aload_n 0, 1) ∧ decode cX11_played 16 = .ok (.getfield 80, 3) ∧ decode cX11_played 19 = .ok (.ifCond .ne 10, 3) ∧ decode cX11_played 22 = .ok (.aload_n 0, 1) ∧ decode cX11_played 23 = .ok (.bipush 8, 2) ∧ decode cX11_played 25 = .ok (.invokevirtual 109, 3) ∧ decode cX11_played 28 = .ok (.ireturn, 1) ∧ True := dkl_ok (c := cX11_played) [(.ireturn, 1), (.aload_n 0, 1), (.getfield 80, 3), (.ifCond .ne 10, 3), (.aload_n 0, 1), (.bipush 8, 2), (.invokevirtual 109, 3), (.ireturn, 1)] 14 (by decide +kernel)
theorem dX11_played_14 : decode cX11_played 14 = .ok (.ireturn, 1) := eX11_played_14.1
theorem dX11_played_15 : decode cX11_played 15 = .ok (.aload_n 0, 1) := eX11_played_14.2.1
theorem dX11_played_16 : decode cX11_played 16 = .ok (.getfield 80, 3) := eX11_played_14.2.2.1
theorem dX11_played_19 : decode cX11_played 19 = .ok (.ifCond .ne 10, 3) := eX11_played_14.2.2.2.1
theorem dX11_played_22 : decode cX11_played 22 = .ok (.aload_n 0, 1) := eX11_played_14.2.2.2.2.1
theorem dX11_played_23 : decode cX11_played 23 = .ok (.bipush 8, 2) := eX11_played_14.2.2.2.2.2.1
theorem dX11_played_25 : decode cX11_played 25 = .ok (.invokevirtual 109, 3) := eX11_played_14.2.2.2.2.2.2.1
theorem dX11_played_28 : decode cX11_played 28 = .ok (.ireturn, 1) := eX11_played_14.2.2.2.2.2.2.2.1
theorem eX11_played_29 : decode cX11_played 29 = .ok (.iload_n 1, 1) ∧ True := dkl_ok (c := cX11_played) [(.iload_n 1, 1)] 29 (by decide +kernel)
theorem dX11_played_29 : decode cX11_played 29 = .ok (.iload_n 1, 1) := eX11_played_29.1
theorem dX11_played_30 : decode cX11_played 30 = .ok (.tableswitch 78 0 3 #[30, 42, 54, 66], 30) := d_of (by decide +kernel)
theorem eX11_played_60 : decode cX11_played 60 = .ok (.aload_n 0, 1) ∧ decode cX11_played 61 = .ok (.aload_n 0, 1) ∧ decode cX11_played 62 = .ok (.getfield 73, 3) ∧ decode cX11_played 65 = .ok (.getfield 404, 3) ∧ decode cX11_played 68 = .ok (.invokevirtual 156, 3) ∧ decode cX11_played 71 = .ok (.ireturn, 1) ∧ decode cX11_played 72 = .ok (.aload_n 0, 1) ∧ decode cX11_played 73 = .ok (.aload_n 0, 1) ∧ True := dkl_ok (c := cX11_played) [(.aload_n 0, 1), (.aload_n 0, 1), (.getfield 73, 3), (.getfield 404, 3), (.invokevirtual 156, 3), (.ireturn, 1), (.aload_n 0, 1), (.aload_n 0, 1)] 60 (by decide +kernel)
theorem dX11_played_60 : decode cX11_played 60 = .ok (.aload_n 0, 1) := eX11_played_60.1
theorem dX11_played_61 : decode cX11_played 61 = .ok (.aload_n 0, 1) := eX11_played_60.2.1
theorem dX11_played_62 : decode cX11_played 62 = .ok (.getfield 73, 3) := eX11_played_60.2.2.1
theorem dX11_played_65 : decode cX11_played 65 = .ok (.getfield 404, 3) := eX11_played_60.2.2.2.1
theorem dX11_played_68 : decode cX11_played 68 = .ok (.invokevirtual 156, 3) := eX11_played_60.2.2.2.2.1
theorem dX11_played_71 : decode cX11_played 71 = .ok (.ireturn, 1) := eX11_played_60.2.2.2.2.2.1
theorem dX11_played_72 : decode cX11_played 72 = .ok (.aload_n 0, 1) := eX11_played_60.2.2.2.2.2.2.1
theorem dX11_played_73 : decode cX11_played 73 = .ok (.aload_n 0, 1) := eX11_played_60.2.2.2.2.2.2.2.1
theorem eX11_played_74 : decode cX11_played 74 = .ok (.getfield 73, 3) ∧ decode cX11_played 77 = .ok (.getfield 407, 3) ∧ decode cX11_played 80 = .ok (.invokevirtual 156, 3) ∧ decode cX11_played 83 = .ok (.ireturn, 1) ∧ decode cX11_played 84 = .ok (.aload_n 0, 1) ∧ decode cX11_played 85 = .ok (.aload_n 0, 1) ∧ decode cX11_played 86 = .ok (.getfield 73, 3) ∧ decode cX11_played 89 = .ok (.getfield 408, 3) ∧ True := dkl_ok (c := cX11_played) [(.getfield 73, 3), (.getfield 407, 3), (.invokevirtual 156, 3), (.ireturn, 1), (.aload_n 0, 1), (.aload_n 0, 1), (.getfield 73, 3), (.getfield 408, 3)] 74 (by decide +kernel)
theorem dX11_played_74 : decode cX11_played 74 = .ok (.getfield 73, 3) := eX11_played_74.1
theorem dX11_played_77 : decode cX11_played 77 = .ok (.getfield 407, 3) := eX11_played_74.2.1
theorem dX11_played_80 : decode cX11_played 80 = .ok (.invokevirtual 156, 3) := eX11_played_74.2.2.1
theorem dX11_played_83 : decode cX11_played 83 = .ok (.ireturn, 1) := eX11_played_74.2.2.2.1
theorem dX11_played_84 : decode cX11_played 84 = .ok (.aload_n 0, 1) := eX11_played_74.2.2.2.2.1
theorem dX11_played_85 : decode cX11_played 85 = .ok (.aload_n 0, 1) := eX11_played_74.2.2.2.2.2.1
theorem dX11_played_86 : decode cX11_played 86 = .ok (.getfield 73, 3) := eX11_played_74.2.2.2.2.2.2.1
theorem dX11_played_89 : decode cX11_played 89 = .ok (.getfield 408, 3) := eX11_played_74.2.2.2.2.2.2.2.1
theorem eX11_played_92 : decode cX11_played 92 = .ok (.invokevirtual 156, 3) ∧ decode cX11_played 95 = .ok (.ireturn, 1) ∧ decode cX11_played 96 = .ok (.aload_n 0, 1) ∧ decode cX11_played 97 = .ok (.aload_n 0, 1) ∧ decode cX11_played 98 = .ok (.getfield 73, 3) ∧ decode cX11_played 101 = .ok (.getfield 411, 3) ∧ decode cX11_played 104 = .ok (.invokevirtual 156, 3) ∧ decode cX11_played 107 = .ok (.ireturn, 1) ∧ True := dkl_ok (c := cX11_played) [(.invokevirtual 156, 3), (.ireturn, 1), (.aload_n 0, 1), (.aload_n 0, 1), (.getfield 73, 3), (.getfield 411, 3), (.invokevirtual 156, 3), (.ireturn, 1)] 92 (by decide +kernel)
theorem dX11_played_92 : decode cX11_played 92 = .ok (.invokevirtual 156, 3) := eX11_played_92.1
theorem dX11_played_95 : decode cX11_played 95 = .ok (.ireturn, 1) := eX11_played_92.2.1
theorem dX11_played_96 : decode cX11_played 96 = .ok (.aload_n 0, 1) := eX11_played_92.2.2.1
theorem dX11_played_97 : decode cX11_played 97 = .ok (.aload_n 0, 1) := eX11_played_92.2.2.2.1
theorem dX11_played_98 : decode cX11_played 98 = .ok (.getfield 73, 3) := eX11_played_92.2.2.2.2.1
theorem dX11_played_101 : decode cX11_played 101 = .ok (.getfield 411, 3) := eX11_played_92.2.2.2.2.2.1
theorem dX11_played_104 : decode cX11_played 104 = .ok (.invokevirtual 156, 3) := eX11_played_92.2.2.2.2.2.2.1
theorem dX11_played_107 : decode cX11_played 107 = .ok (.ireturn, 1) := eX11_played_92.2.2.2.2.2.2.2.1
theorem eX11_played_108 : decode cX11_played 108 = .ok (.aload_n 0, 1) ∧ decode cX11_played 109 = .ok (.aload_n 0, 1) ∧ decode cX11_played 110 = .ok (.getfield 73, 3) ∧ decode cX11_played 113 = .ok (.getfield 414, 3) ∧ decode cX11_played 116 = .ok (.ifCond .eq 7, 3) ∧ decode cX11_played 119 = .ok (.iconst 1, 1) ∧ decode cX11_played 120 = .ok (.goto 4, 3) ∧ decode cX11_played 123 = .ok (.iconst 0, 1) ∧ True := dkl_ok (c := cX11_played) [(.aload_n 0, 1), (.aload_n 0, 1), (.getfield 73, 3), (.getfield 414, 3), (.ifCond .eq 7, 3), (.iconst 1, 1), (.goto 4, 3), (.iconst 0, 1)] 108 (by decide +kernel)
theorem dX11_played_108 : decode cX11_played 108 = .ok (.aload_n 0, 1) := eX11_played_108.1
theorem dX11_played_109 : decode cX11_played 109 = .ok (.aload_n 0, 1) := eX11_played_108.2.1
theorem dX11_played_110 : decode cX11_played 110 = .ok (.getfield 73, 3) := eX11_played_108.2.2.1
theorem dX11_played_113 : decode cX11_played 113 = .ok (.getfield 414, 3) := eX11_played_108.2.2.2.1
theorem dX11_played_116 : decode cX11_played 116 = .ok (.ifCond .eq 7, 3) := eX11_played_108.2.2.2.2.1
theorem dX11_played_119 : decode cX11_played 119 = .ok (.iconst 1, 1) := eX11_played_108.2.2.2.2.2.1
theorem dX11_played_120 : decode cX11_played 120 = .ok (.goto 4, 3) := eX11_played_108.2.2.2.2.2.2.1
theorem dX11_played_123 : decode cX11_played 123 = .ok (.iconst 0, 1) := eX11_played_108.2.2.2.2.2.2.2.1
theorem eX11_played_124 : decode cX11_played 124 = .ok (.invokevirtual 156, 3) ∧ decode cX11_played 127 = .ok (.ireturn, 1) ∧ True := dkl_ok (c := cX11_played) [(.invokevirtual 156, 3), (.ireturn, 1)] 124 (by decide +kernel)
theorem dX11_played_124 : decode cX11_played 124 = .ok (.invokevirtual 156, 3) := eX11_played_124.1
theorem dX11_played_127 : decode cX11_played 127 = .ok (.ireturn, 1) := eX11_played_124.2.1
theorem eX11_wins_0 : decode cX11_wins 0 = .ok (.aload_n 0, 1) ∧ decode cX11_wins 1 = .ok (.iload_n 1, 1) ∧ decode cX11_wins 2 = .ok (.iload_n 2, 1) ∧ decode cX11_wins 3 = .ok (.iload_n 3, 1) ∧ decode cX11_wins 4 = .ok (.invokevirtual 417, 3) ∧ decode cX11_wins 7 = .ok (.istore 4, 2) ∧ decode cX11_wins 9 = .ok (.iload 4, 2) ∧ decode cX11_wins 11 = .ok (.ifCond .eq 10, 3) ∧ True := dkl_ok (c := cX11_wins) [(.aload_n 0, 1), (.iload_n 1, 1), (.iload_n 2, 1), (.iload_n 3, 1), (.invokevirtual 417, 3), (.istore 4, 2), (.iload 4, 2), (.ifCond .eq 10, 3)] 0 (by decide +kernel)
theorem dX11_wins_0 : decode cX11_wins 0 = .ok (.aload_n 0, 1) := eX11_wins_0.1
theorem dX11_wins_1 : decode cX11_wins 1 = .ok (.iload_n 1, 1) := eX11_wins_0.2.1
theorem dX11_wins_2 : decode cX11_wins 2 = .ok (.iload_n 2, 1) := eX11_wins_0.2.2.1
theorem dX11_wins_3 : decode cX11_wins 3 = .ok (.iload_n 3, 1) := eX11_wins_0.2.2.2.1
theorem dX11_wins_4 : decode cX11_wins 4 = .ok (.invokevirtual 417, 3) := eX11_wins_0.2.2.2.2.1
theorem dX11_wins_7 : decode cX11_wins 7 = .ok (.istore 4, 2) := eX11_wins_0.2.2.2.2.2.1
theorem dX11_wins_9 : decode cX11_wins 9 = .ok (.iload 4, 2) := eX11_wins_0.2.2.2.2.2.2.1
theorem dX11_wins_11 : decode cX11_wins 11 = .ok (.ifCond .eq 10, 3) := eX11_wins_0.2.2.2.2.2.2.2.1
theorem eX11_wins_14 : decode cX11_wins 14 = .ok (.aload_n 0, 1) ∧ decode cX11_wins 15 = .ok (.iload 4, 2) ∧ decode cX11_wins 17 = .ok (.invokevirtual 89, 3) ∧ decode cX11_wins 20 = .ok (.ireturn, 1) ∧ decode cX11_wins 21 = .ok (.iconst 0, 1) ∧ decode cX11_wins 22 = .ok (.istore 5, 2) ∧ decode cX11_wins 24 = .ok (.iconst 0, 1) ∧ decode cX11_wins 25 = .ok (.istore 6, 2) ∧ True := dkl_ok (c := cX11_wins) [(.aload_n 0, 1), (.iload 4, 2), (.invokevirtual 89, 3), (.ireturn, 1), (.iconst 0, 1), (.istore 5, 2), (.iconst 0, 1), (.istore 6, 2)] 14 (by decide +kernel)
theorem dX11_wins_14 : decode cX11_wins 14 = .ok (.aload_n 0, 1) := eX11_wins_14.1
theorem dX11_wins_15 : decode cX11_wins 15 = .ok (.iload 4, 2) := eX11_wins_14.2.1
theorem dX11_wins_17 : decode cX11_wins 17 = .ok (.invokevirtual 89, 3) := eX11_wins_14.2.2.1
theorem dX11_wins_20 : decode cX11_wins 20 = .ok (.ireturn, 1) := eX11_wins_14.2.2.2.1
theorem dX11_wins_21 : decode cX11_wins 21 = .ok (.iconst 0, 1) := eX11_wins_14.2.2.2.2.1
theorem dX11_wins_22 : decode cX11_wins 22 = .ok (.istore 5, 2) := eX11_wins_14.2.2.2.2.2.1
theorem dX11_wins_24 : decode cX11_wins 24 = .ok (.iconst 0, 1) := eX11_wins_14.2.2.2.2.2.2.1
theorem dX11_wins_25 : decode cX11_wins 25 = .ok (.istore 6, 2) := eX11_wins_14.2.2.2.2.2.2.2.1
theorem eX11_wins_27 : decode cX11_wins 27 = .ok (.iload 6, 2) ∧ decode cX11_wins 29 = .ok (.iload_n 3, 1) ∧ decode cX11_wins 30 = .ok (.if_icmp .ge 49, 3) ∧ decode cX11_wins 33 = .ok (.aload_n 0, 1) ∧ decode cX11_wins 34 = .ok (.getfield 46, 3) ∧ decode cX11_wins 37 = .ok (.aload_n 0, 1) ∧ decode cX11_wins 38 = .ok (.getfield 42, 3) ∧ decode cX11_wins 41 = .ok (.invokevirtual 144, 3) ∧ True := dkl_ok (c := cX11_wins) [(.iload 6, 2), (.iload_n 3, 1), (.if_icmp .ge 49, 3), (.aload_n 0, 1), (.getfield 46, 3), (.aload_n 0, 1), (.getfield 42, 3), (.invokevirtual 144, 3)] 27 (by decide +kernel)
theorem dX11_wins_27 : decode cX11_wins 27 = .ok (.iload 6, 2) := eX11_wins_27.1
theorem dX11_wins_29 : decode cX11_wins 29 = .ok (.iload_n 3, 1) := eX11_wins_27.2.1
theorem dX11_wins_30 : decode cX11_wins 30 = .ok (.if_icmp .ge 49, 3) := eX11_wins_27.2.2.1
theorem dX11_wins_33 : decode cX11_wins 33 = .ok (.aload_n 0, 1) := eX11_wins_27.2.2.2.1
theorem dX11_wins_34 : decode cX11_wins 34 = .ok (.getfield 46, 3) := eX11_wins_27.2.2.2.2.1
theorem dX11_wins_37 : decode cX11_wins 37 = .ok (.aload_n 0, 1) := eX11_wins_27.2.2.2.2.2.1
theorem dX11_wins_38 : decode cX11_wins 38 = .ok (.getfield 42, 3) := eX11_wins_27.2.2.2.2.2.2.1
theorem dX11_wins_41 : decode cX11_wins 41 = .ok (.invokevirtual 144, 3) := eX11_wins_27.2.2.2.2.2.2.2.1
theorem eX11_wins_44 : decode cX11_wins 44 = .ok (.aload_n 0, 1) ∧ decode cX11_wins 45 = .ok (.getfield 77, 3) ∧ decode cX11_wins 48 = .ok (.aload_n 0, 1) ∧ decode cX11_wins 49 = .ok (.getfield 46, 3) ∧ decode cX11_wins 52 = .ok (.iload_n 2, 1) ∧ decode cX11_wins 53 = .ok (.iload 6, 2) ∧ decode cX11_wins 55 = .ok (.iadd, 1) ∧ decode cX11_wins 56 = .ok (.invokevirtual 399, 3) ∧ True := dkl_ok (c := cX11_wins) [(.aload_n 0, 1), (.getfield 77, 3), (.aload_n 0, 1), (.getfield 46, 3), (.iload_n 2, 1), (.iload 6, 2), (.iadd, 1), (.invokevirtual 399, 3)] 44 (by decide +kernel)
theorem dX11_wins_44 : decode cX11_wins 44 = .ok (.aload_n 0, 1) := eX11_wins_44.1
theorem dX11_wins_45 : decode cX11_wins 45 = .ok (.getfield 77, 3) := eX11_wins_44.2.1
theorem dX11_wins_48 : decode cX11_wins 48 = .ok (.aload_n 0, 1) := eX11_wins_44.2.2.1
theorem dX11_wins_49 : decode cX11_wins 49 = .ok (.getfield 46, 3) := eX11_wins_44.2.2.2.1
theorem dX11_wins_52 : decode cX11_wins 52 = .ok (.iload_n 2, 1) := eX11_wins_44.2.2.2.2.1
theorem dX11_wins_53 : decode cX11_wins 53 = .ok (.iload 6, 2) := eX11_wins_44.2.2.2.2.2.1
theorem dX11_wins_55 : decode cX11_wins 55 = .ok (.iadd, 1) := eX11_wins_44.2.2.2.2.2.2.1
theorem dX11_wins_56 : decode cX11_wins 56 = .ok (.invokevirtual 399, 3) := eX11_wins_44.2.2.2.2.2.2.2.1
theorem eX11_wins_59 : decode cX11_wins 59 = .ok (.aload_n 0, 1) ∧ decode cX11_wins 60 = .ok (.getfield 46, 3) ∧ decode cX11_wins 63 = .ok (.getfield 213, 3) ∧ decode cX11_wins 66 = .ok (.iload_n 1, 1) ∧ decode cX11_wins 67 = .ok (.if_icmp .ne 6, 3) ∧ decode cX11_wins 70 = .ok (.iinc 5 1, 3) ∧ decode cX11_wins 73 = .ok (.iinc 6 1, 3) ∧ decode cX11_wins 76 = .ok (.goto (-49), 3) ∧ True := dkl_ok (c := cX11_wins) [(.aload_n 0, 1), (.getfield 46, 3), (.getfield 213, 3), (.iload_n 1, 1), (.if_icmp .ne 6, 3), (.iinc 5 1, 3), (.iinc 6 1, 3), (.goto (-49), 3)] 59 (by decide +kernel)
theorem dX11_wins_59 : decode cX11_wins 59 = .ok (.aload_n 0, 1) := eX11_wins_59.1
theorem dX11_wins_60 : decode cX11_wins 60 = .ok (.getfield 46, 3) := eX11_wins_59.2.1
theorem dX11_wins_63 : decode cX11_wins 63 = .ok (.getfield 213, 3) := eX11_wins_59.2.2.1
theorem dX11_wins_66 : decode cX11_wins 66 = .ok (.iload_n 1, 1) := eX11_wins_59.2.2.2.1
theorem dX11_wins_67 : decode cX11_wins 67 = .ok (.if_icmp .ne 6, 3) := eX11_wins_59.2.2.2.2.1
theorem dX11_wins_70 : decode cX11_wins 70 = .ok (.iinc 5 1, 3) := eX11_wins_59.2.2.2.2.2.1
theorem dX11_wins_73 : decode cX11_wins 73 = .ok (.iinc 6 1, 3) := eX11_wins_59.2.2.2.2.2.2.1
theorem dX11_wins_76 : decode cX11_wins 76 = .ok (.goto (-49), 3) := eX11_wins_59.2.2.2.2.2.2.2.1
theorem eX11_wins_79 : decode cX11_wins 79 = .ok (.aload_n 0, 1) ∧ decode cX11_wins 80 = .ok (.iload 5, 2) ∧ decode cX11_wins 82 = .ok (.i2l, 1) ∧ decode cX11_wins 83 = .ok (.iload_n 3, 1) ∧ decode cX11_wins 84 = .ok (.i2l, 1) ∧ decode cX11_wins 85 = .ok (.invokevirtual 326, 3) ∧ decode cX11_wins 88 = .ok (.ireturn, 1) ∧ True := dkl_ok (c := cX11_wins) [(.aload_n 0, 1), (.iload 5, 2), (.i2l, 1), (.iload_n 3, 1), (.i2l, 1), (.invokevirtual 326, 3), (.ireturn, 1)] 79 (by decide +kernel)
theorem dX11_wins_79 : decode cX11_wins 79 = .ok (.aload_n 0, 1) := eX11_wins_79.1
theorem dX11_wins_80 : decode cX11_wins 80 = .ok (.iload 5, 2) := eX11_wins_79.2.1
theorem dX11_wins_82 : decode cX11_wins 82 = .ok (.i2l, 1) := eX11_wins_79.2.2.1
theorem dX11_wins_83 : decode cX11_wins 83 = .ok (.iload_n 3, 1) := eX11_wins_79.2.2.2.1
theorem dX11_wins_84 : decode cX11_wins 84 = .ok (.i2l, 1) := eX11_wins_79.2.2.2.2.1
theorem dX11_wins_85 : decode cX11_wins 85 = .ok (.invokevirtual 326, 3) := eX11_wins_79.2.2.2.2.2.1
theorem dX11_wins_88 : decode cX11_wins 88 = .ok (.ireturn, 1) := eX11_wins_79.2.2.2.2.2.2.1
theorem eX11_left_0 : decode cX11_left 0 = .ok (.aload_n 0, 1) ∧ decode cX11_left 1 = .ok (.iload_n 1, 1) ∧ decode cX11_left 2 = .ok (.iload_n 2, 1) ∧ decode cX11_left 3 = .ok (.iload_n 3, 1) ∧ decode cX11_left 4 = .ok (.invokevirtual 417, 3) ∧ decode cX11_left 7 = .ok (.istore 4, 2) ∧ decode cX11_left 9 = .ok (.iload 4, 2) ∧ decode cX11_left 11 = .ok (.ifCond .eq 10, 3) ∧ True := dkl_ok (c := cX11_left) [(.aload_n 0, 1), (.iload_n 1, 1), (.iload_n 2, 1), (.iload_n 3, 1), (.invokevirtual 417, 3), (.istore 4, 2), (.iload 4, 2), (.ifCond .eq 10, 3)] 0 (by decide +kernel)
theorem dX11_left_0 : decode cX11_left 0 = .ok (.aload_n 0, 1) := eX11_left_0.1
theorem dX11_left_1 : decode cX11_left 1 = .ok (.iload_n 1, 1) := eX11_left_0.2.1
theorem dX11_left_2 : decode cX11_left 2 = .ok (.iload_n 2, 1) := eX11_left_0.2.2.1
theorem dX11_left_3 : decode cX11_left 3 = .ok (.iload_n 3, 1) := eX11_left_0.2.2.2.1
theorem dX11_left_4 : decode cX11_left 4 = .ok (.invokevirtual 417, 3) := eX11_left_0.2.2.2.2.1
theorem dX11_left_7 : decode cX11_left 7 = .ok (.istore 4, 2) := eX11_left_0.2.2.2.2.2.1
theorem dX11_left_9 : decode cX11_left 9 = .ok (.iload 4, 2) := eX11_left_0.2.2.2.2.2.2.1
theorem dX11_left_11 : decode cX11_left 11 = .ok (.ifCond .eq 10, 3) := eX11_left_0.2.2.2.2.2.2.2.1
theorem eX11_left_14 : decode cX11_left 14 = .ok (.aload_n 0, 1) ∧ decode cX11_left 15 = .ok (.iload 4, 2) ∧ decode cX11_left 17 = .ok (.invokevirtual 89, 3) ∧ decode cX11_left 20 = .ok (.ireturn, 1) ∧ decode cX11_left 21 = .ok (.iconst 0, 1) ∧ decode cX11_left 22 = .ok (.istore 5, 2) ∧ decode cX11_left 24 = .ok (.iconst 0, 1) ∧ decode cX11_left 25 = .ok (.istore 6, 2) ∧ True := dkl_ok (c := cX11_left) [(.aload_n 0, 1), (.iload 4, 2), (.invokevirtual 89, 3), (.ireturn, 1), (.iconst 0, 1), (.istore 5, 2), (.iconst 0, 1), (.istore 6, 2)] 14 (by decide +kernel)
theorem dX11_left_14 : decode cX11_left 14 = .ok (.aload_n 0, 1) := eX11_left_14.1
theorem dX11_left_15 : decode cX11_left 15 = .ok (.iload 4, 2) := eX11_left_14.2.1
theorem dX11_left_17 : decode cX11_left 17 = .ok (.invokevirtual 89, 3) := eX11_left_14.2.2.1
theorem dX11_left_20 : decode cX11_left 20 = .ok (.ireturn, 1) := eX11_left_14.2.2.2.1
theorem dX11_left_21 : decode cX11_left 21 = .ok (.iconst 0, 1) := eX11_left_14.2.2.2.2.1
theorem dX11_left_22 : decode cX11_left 22 = .ok (.istore 5, 2) := eX11_left_14.2.2.2.2.2.1
theorem dX11_left_24 : decode cX11_left 24 = .ok (.iconst 0, 1) := eX11_left_14.2.2.2.2.2.2.1
theorem dX11_left_25 : decode cX11_left 25 = .ok (.istore 6, 2) := eX11_left_14.2.2.2.2.2.2.2.1
theorem eX11_left_27 : decode cX11_left 27 = .ok (.iload 6, 2) ∧ decode cX11_left 29 = .ok (.iload_n 3, 1) ∧ decode cX11_left 30 = .ok (.if_icmp .ge 54, 3) ∧ decode cX11_left 33 = .ok (.aload_n 0, 1) ∧ decode cX11_left 34 = .ok (.getfield 46, 3) ∧ decode cX11_left 37 = .ok (.aload_n 0, 1) ∧ decode cX11_left 38 = .ok (.getfield 42, 3) ∧ decode cX11_left 41 = .ok (.invokevirtual 144, 3) ∧ True := dkl_ok (c := cX11_left) [(.iload 6, 2), (.iload_n 3, 1), (.if_icmp .ge 54, 3), (.aload_n 0, 1), (.getfield 46, 3), (.aload_n 0, 1), (.getfield 42, 3), (.invokevirtual 144, 3)] 27 (by decide +kernel)
theorem dX11_left_27 : decode cX11_left 27 = .ok (.iload 6, 2) := eX11_left_27.1
theorem dX11_left_29 : decode cX11_left 29 = .ok (.iload_n 3, 1) := eX11_left_27.2.1
theorem dX11_left_30 : decode cX11_left 30 = .ok (.if_icmp .ge 54, 3) := eX11_left_27.2.2.1
theorem dX11_left_33 : decode cX11_left 33 = .ok (.aload_n 0, 1) := eX11_left_27.2.2.2.1
theorem dX11_left_34 : decode cX11_left 34 = .ok (.getfield 46, 3) := eX11_left_27.2.2.2.2.1
theorem dX11_left_37 : decode cX11_left 37 = .ok (.aload_n 0, 1) := eX11_left_27.2.2.2.2.2.1
theorem dX11_left_38 : decode cX11_left 38 = .ok (.getfield 42, 3) := eX11_left_27.2.2.2.2.2.2.1
theorem dX11_left_41 : decode cX11_left 41 = .ok (.invokevirtual 144, 3) := eX11_left_27.2.2.2.2.2.2.2.1
theorem eX11_left_44 : decode cX11_left 44 = .ok (.aload_n 0, 1) ∧ decode cX11_left 45 = .ok (.getfield 77, 3) ∧ decode cX11_left 48 = .ok (.aload_n 0, 1) ∧ decode cX11_left 49 = .ok (.getfield 46, 3) ∧ decode cX11_left 52 = .ok (.iload_n 2, 1) ∧ decode cX11_left 53 = .ok (.iload 6, 2) ∧ decode cX11_left 55 = .ok (.iadd, 1) ∧ decode cX11_left 56 = .ok (.invokevirtual 399, 3) ∧ True := dkl_ok (c := cX11_left) [(.aload_n 0, 1), (.getfield 77, 3), (.aload_n 0, 1), (.getfield 46, 3), (.iload_n 2, 1), (.iload 6, 2), (.iadd, 1), (.invokevirtual 399, 3)] 44 (by decide +kernel)
theorem dX11_left_44 : decode cX11_left 44 = .ok (.aload_n 0, 1) := eX11_left_44.1
theorem dX11_left_45 : decode cX11_left 45 = .ok (.getfield 77, 3) := eX11_left_44.2.1
theorem dX11_left_48 : decode cX11_left 48 = .ok (.aload_n 0, 1) := eX11_left_44.2.2.1
theorem dX11_left_49 : decode cX11_left 49 = .ok (.getfield 46, 3) := eX11_left_44.2.2.2.1
theorem dX11_left_52 : decode cX11_left 52 = .ok (.iload_n 2, 1) := eX11_left_44.2.2.2.2.1
theorem dX11_left_53 : decode cX11_left 53 = .ok (.iload 6, 2) := eX11_left_44.2.2.2.2.2.1
theorem dX11_left_55 : decode cX11_left 55 = .ok (.iadd, 1) := eX11_left_44.2.2.2.2.2.2.1
theorem dX11_left_56 : decode cX11_left 56 = .ok (.invokevirtual 399, 3) := eX11_left_44.2.2.2.2.2.2.2.1
theorem eX11_left_59 : decode cX11_left 59 = .ok (.iload 5, 2) ∧ decode cX11_left 61 = .ok (.aload_n 0, 1) ∧ decode cX11_left 62 = .ok (.getfield 46, 3) ∧ decode cX11_left 65 = .ok (.getfield 222, 3) ∧ decode cX11_left 68 = .ok (.getfield 239, 3) ∧ decode cX11_left 71 = .ok (.iload_n 1, 1) ∧ decode cX11_left 72 = .ok (.invokevirtual 232, 3) ∧ decode cX11_left 75 = .ok (.iadd, 1) ∧ True := dkl_ok (c := cX11_left) [(.iload 5, 2), (.aload_n 0, 1), (.getfield 46, 3), (.getfield 222, 3), (.getfield 239, 3), (.iload_n 1, 1), (.invokevirtual 232, 3), (.iadd, 1)] 59 (by decide +kernel)
theorem dX11_left_59 : decode cX11_left 59 = .ok (.iload 5, 2) := eX11_left_59.1
theorem dX11_left_61 : decode cX11_left 61 = .ok (.aload_n 0, 1) := eX11_left_59.2.1
theorem dX11_left_62 : decode cX11_left 62 = .ok (.getfield 46, 3) := eX11_left_59.2.2.1
theorem dX11_left_65 : decode cX11_left 65 = .ok (.getfield 222, 3) := eX11_left_59.2.2.2.1
theorem dX11_left_68 : decode cX11_left 68 = .ok (.getfield 239, 3) := eX11_left_59.2.2.2.2.1
theorem dX11_left_71 : decode cX11_left 71 = .ok (.iload_n 1, 1) := eX11_left_59.2.2.2.2.2.1
theorem dX11_left_72 : decode cX11_left 72 = .ok (.invokevirtual 232, 3) := eX11_left_59.2.2.2.2.2.2.1
theorem dX11_left_75 : decode cX11_left 75 = .ok (.iadd, 1) := eX11_left_59.2.2.2.2.2.2.2.1
theorem eX11_left_76 : decode cX11_left 76 = .ok (.istore 5, 2) ∧ decode cX11_left 78 = .ok (.iinc 6 1, 3) ∧ decode cX11_left 81 = .ok (.goto (-54), 3) ∧ decode cX11_left 84 = .ok (.aload_n 0, 1) ∧ decode cX11_left 85 = .ok (.iload 5, 2) ∧ decode cX11_left 87 = .ok (.i2l, 1) ∧ decode cX11_left 88 = .ok (.iload_n 3, 1) ∧ decode cX11_left 89 = .ok (.i2l, 1) ∧ True := dkl_ok (c := cX11_left) [(.istore 5, 2), (.iinc 6 1, 3), (.goto (-54), 3), (.aload_n 0, 1), (.iload 5, 2), (.i2l, 1), (.iload_n 3, 1), (.i2l, 1)] 76 (by decide +kernel)
theorem dX11_left_76 : decode cX11_left 76 = .ok (.istore 5, 2) := eX11_left_76.1
theorem dX11_left_78 : decode cX11_left 78 = .ok (.iinc 6 1, 3) := eX11_left_76.2.1
theorem dX11_left_81 : decode cX11_left 81 = .ok (.goto (-54), 3) := eX11_left_76.2.2.1
theorem dX11_left_84 : decode cX11_left 84 = .ok (.aload_n 0, 1) := eX11_left_76.2.2.2.1
theorem dX11_left_85 : decode cX11_left 85 = .ok (.iload 5, 2) := eX11_left_76.2.2.2.2.1
theorem dX11_left_87 : decode cX11_left 87 = .ok (.i2l, 1) := eX11_left_76.2.2.2.2.2.1
theorem dX11_left_88 : decode cX11_left 88 = .ok (.iload_n 3, 1) := eX11_left_76.2.2.2.2.2.2.1
theorem dX11_left_89 : decode cX11_left 89 = .ok (.i2l, 1) := eX11_left_76.2.2.2.2.2.2.2.1
theorem eX11_left_90 : decode cX11_left 90 = .ok (.invokevirtual 326, 3) ∧ decode cX11_left 93 = .ok (.ireturn, 1) ∧ True := dkl_ok (c := cX11_left) [(.invokevirtual 326, 3), (.ireturn, 1)] 90 (by decide +kernel)
theorem dX11_left_90 : decode cX11_left 90 = .ok (.invokevirtual 326, 3) := eX11_left_90.1
theorem dX11_left_93 : decode cX11_left 93 = .ok (.ireturn, 1) := eX11_left_90.2.1
theorem eX11_seedsStatus_0 : decode cX11_seedsStatus 0 = .ok (.aload_n 0, 1) ∧ decode cX11_seedsStatus 1 = .ok (.iload_n 1, 1) ∧ decode cX11_seedsStatus 2 = .ok (.invokevirtual 219, 3) ∧ decode cX11_seedsStatus 5 = .ok (.ifCond .ne 5, 3) ∧ decode cX11_seedsStatus 8 = .ok (.iconst 2, 1) ∧ decode cX11_seedsStatus 9 = .ok (.ireturn, 1) ∧ decode cX11_seedsStatus 10 = .ok (.iload_n 2, 1) ∧ decode cX11_seedsStatus 11 = .ok (.ifCond .lt 25, 3) ∧ True := dkl_ok (c := cX11_seedsStatus) [(.aload_n 0, 1), (.iload_n 1, 1), (.invokevirtual 219, 3), (.ifCond .ne 5, 3), (.iconst 2, 1), (.ireturn, 1), (.iload_n 2, 1), (.ifCond .lt 25, 3)] 0 (by decide +kernel)
theorem dX11_seedsStatus_0 : decode cX11_seedsStatus 0 = .ok (.aload_n 0, 1) := eX11_seedsStatus_0.1
theorem dX11_seedsStatus_1 : decode cX11_seedsStatus 1 = .ok (.iload_n 1, 1) := eX11_seedsStatus_0.2.1
theorem dX11_seedsStatus_2 : decode cX11_seedsStatus 2 = .ok (.invokevirtual 219, 3) := eX11_seedsStatus_0.2.2.1
theorem dX11_seedsStatus_5 : decode cX11_seedsStatus 5 = .ok (.ifCond .ne 5, 3) := eX11_seedsStatus_0.2.2.2.1
theorem dX11_seedsStatus_8 : decode cX11_seedsStatus 8 = .ok (.iconst 2, 1) := eX11_seedsStatus_0.2.2.2.2.1
theorem dX11_seedsStatus_9 : decode cX11_seedsStatus 9 = .ok (.ireturn, 1) := eX11_seedsStatus_0.2.2.2.2.2.1
theorem dX11_seedsStatus_10 : decode cX11_seedsStatus 10 = .ok (.iload_n 2, 1) := eX11_seedsStatus_0.2.2.2.2.2.2.1
theorem dX11_seedsStatus_11 : decode cX11_seedsStatus 11 = .ok (.ifCond .lt 25, 3) := eX11_seedsStatus_0.2.2.2.2.2.2.2.1
theorem eX11_seedsStatus_14 : decode cX11_seedsStatus 14 = .ok (.iload_n 3, 1) ∧ decode cX11_seedsStatus 15 = .ok (.iconst 1, 1) ∧ decode cX11_seedsStatus 16 = .ok (.if_icmp .lt 20, 3) ∧ decode cX11_seedsStatus 19 = .ok (.iload_n 3, 1) ∧ decode cX11_seedsStatus 20 = .ok (.bipush 20, 2) ∧ decode cX11_seedsStatus 22 = .ok (.if_icmp .gt 14, 3) ∧ decode cX11_seedsStatus 25 = .ok (.iload_n 2, 1) ∧ decode cX11_seedsStatus 26 = .ok (.sipush 9999, 3) ∧ True := dkl_ok (c := cX11_seedsStatus) [(.iload_n 3, 1), (.iconst 1, 1), (.if_icmp .lt 20, 3), (.iload_n 3, 1), (.bipush 20, 2), (.if_icmp .gt 14, 3), (.iload_n 2, 1), (.sipush 9999, 3)] 14 (by decide +kernel)
theorem dX11_seedsStatus_14 : decode cX11_seedsStatus 14 = .ok (.iload_n 3, 1) := eX11_seedsStatus_14.1
theorem dX11_seedsStatus_15 : decode cX11_seedsStatus 15 = .ok (.iconst 1, 1) := eX11_seedsStatus_14.2.1
theorem dX11_seedsStatus_16 : decode cX11_seedsStatus 16 = .ok (.if_icmp .lt 20, 3) := eX11_seedsStatus_14.2.2.1
theorem dX11_seedsStatus_19 : decode cX11_seedsStatus 19 = .ok (.iload_n 3, 1) := eX11_seedsStatus_14.2.2.2.1
theorem dX11_seedsStatus_20 : decode cX11_seedsStatus 20 = .ok (.bipush 20, 2) := eX11_seedsStatus_14.2.2.2.2.1
theorem dX11_seedsStatus_22 : decode cX11_seedsStatus 22 = .ok (.if_icmp .gt 14, 3) := eX11_seedsStatus_14.2.2.2.2.2.1
theorem dX11_seedsStatus_25 : decode cX11_seedsStatus 25 = .ok (.iload_n 2, 1) := eX11_seedsStatus_14.2.2.2.2.2.2.1
theorem dX11_seedsStatus_26 : decode cX11_seedsStatus 26 = .ok (.sipush 9999, 3) := eX11_seedsStatus_14.2.2.2.2.2.2.2.1
theorem eX11_seedsStatus_29 : decode cX11_seedsStatus 29 = .ok (.iload_n 3, 1) ∧ decode cX11_seedsStatus 30 = .ok (.isub, 1) ∧ decode cX11_seedsStatus 31 = .ok (.iconst 1, 1) ∧ decode cX11_seedsStatus 32 = .ok (.iadd, 1) ∧ decode cX11_seedsStatus 33 = .ok (.if_icmp .le 5, 3) ∧ decode cX11_seedsStatus 36 = .ok (.iconst 5, 1) ∧ decode cX11_seedsStatus 37 = .ok (.ireturn, 1) ∧ decode cX11_seedsStatus 38 = .ok (.aload_n 0, 1) ∧ True := dkl_ok (c := cX11_seedsStatus) [(.iload_n 3, 1), (.isub, 1), (.iconst 1, 1), (.iadd, 1), (.if_icmp .le 5, 3), (.iconst 5, 1), (.ireturn, 1), (.aload_n 0, 1)] 29 (by decide +kernel)
theorem dX11_seedsStatus_29 : decode cX11_seedsStatus 29 = .ok (.iload_n 3, 1) := eX11_seedsStatus_29.1
theorem dX11_seedsStatus_30 : decode cX11_seedsStatus 30 = .ok (.isub, 1) := eX11_seedsStatus_29.2.1
theorem dX11_seedsStatus_31 : decode cX11_seedsStatus 31 = .ok (.iconst 1, 1) := eX11_seedsStatus_29.2.2.1
theorem dX11_seedsStatus_32 : decode cX11_seedsStatus 32 = .ok (.iadd, 1) := eX11_seedsStatus_29.2.2.2.1
theorem dX11_seedsStatus_33 : decode cX11_seedsStatus 33 = .ok (.if_icmp .le 5, 3) := eX11_seedsStatus_29.2.2.2.2.1
theorem dX11_seedsStatus_36 : decode cX11_seedsStatus 36 = .ok (.iconst 5, 1) := eX11_seedsStatus_29.2.2.2.2.2.1
theorem dX11_seedsStatus_37 : decode cX11_seedsStatus 37 = .ok (.ireturn, 1) := eX11_seedsStatus_29.2.2.2.2.2.2.1
theorem dX11_seedsStatus_38 : decode cX11_seedsStatus 38 = .ok (.aload_n 0, 1) := eX11_seedsStatus_29.2.2.2.2.2.2.2.1
theorem eX11_seedsStatus_39 : decode cX11_seedsStatus 39 = .ok (.getfield 42, 3) ∧ decode cX11_seedsStatus 42 = .ok (.getfield 162, 3) ∧ decode cX11_seedsStatus 45 = .ok (.getfield 396, 3) ∧ decode cX11_seedsStatus 48 = .ok (.ifCond .eq 7, 3) ∧ decode cX11_seedsStatus 51 = .ok (.iconst 0, 1) ∧ decode cX11_seedsStatus 52 = .ok (.goto 5, 3) ∧ decode cX11_seedsStatus 55 = .ok (.bipush 8, 2) ∧ decode cX11_seedsStatus 57 = .ok (.ireturn, 1) ∧ True := dkl_ok (c := cX11_seedsStatus) [(.getfield 42, 3), (.getfield 162, 3), (.getfield 396, 3), (.ifCond .eq 7, 3), (.iconst 0, 1), (.goto 5, 3), (.bipush 8, 2), (.ireturn, 1)] 39 (by decide +kernel)
theorem dX11_seedsStatus_39 : decode cX11_seedsStatus 39 = .ok (.getfield 42, 3) := eX11_seedsStatus_39.1
theorem dX11_seedsStatus_42 : decode cX11_seedsStatus 42 = .ok (.getfield 162, 3) := eX11_seedsStatus_39.2.1
theorem dX11_seedsStatus_45 : decode cX11_seedsStatus 45 = .ok (.getfield 396, 3) := eX11_seedsStatus_39.2.2.1
theorem dX11_seedsStatus_48 : decode cX11_seedsStatus 48 = .ok (.ifCond .eq 7, 3) := eX11_seedsStatus_39.2.2.2.1
theorem dX11_seedsStatus_51 : decode cX11_seedsStatus 51 = .ok (.iconst 0, 1) := eX11_seedsStatus_39.2.2.2.2.1
theorem dX11_seedsStatus_52 : decode cX11_seedsStatus 52 = .ok (.goto 5, 3) := eX11_seedsStatus_39.2.2.2.2.2.1
theorem dX11_seedsStatus_55 : decode cX11_seedsStatus 55 = .ok (.bipush 8, 2) := eX11_seedsStatus_39.2.2.2.2.2.2.1
theorem dX11_seedsStatus_57 : decode cX11_seedsStatus 57 = .ok (.ireturn, 1) := eX11_seedsStatus_39.2.2.2.2.2.2.2.1
theorem eX11_mark_0 : decode cX11_mark 0 = .ok (.aload_n 0, 1) ∧ decode cX11_mark 1 = .ok (.aload_n 0, 1) ∧ decode cX11_mark 2 = .ok (.getfield 53, 3) ∧ decode cX11_mark 5 = .ok (.invokevirtual 420, 3) ∧ decode cX11_mark 8 = .ok (.astore_n 1, 1) ∧ decode cX11_mark 9 = .ok (.aload_n 1, 1) ∧ decode cX11_mark 10 = .ok (.ifnonnull 10, 3) ∧ decode cX11_mark 13 = .ok (.aload_n 0, 1) ∧ True := dkl_ok (c := cX11_mark) [(.aload_n 0, 1), (.aload_n 0, 1), (.getfield 53, 3), (.invokevirtual 420, 3), (.astore_n 1, 1), (.aload_n 1, 1), (.ifnonnull 10, 3), (.aload_n 0, 1)] 0 (by decide +kernel)
theorem dX11_mark_0 : decode cX11_mark 0 = .ok (.aload_n 0, 1) := eX11_mark_0.1
theorem dX11_mark_1 : decode cX11_mark 1 = .ok (.aload_n 0, 1) := eX11_mark_0.2.1
theorem dX11_mark_2 : decode cX11_mark 2 = .ok (.getfield 53, 3) := eX11_mark_0.2.2.1
theorem dX11_mark_5 : decode cX11_mark 5 = .ok (.invokevirtual 420, 3) := eX11_mark_0.2.2.2.1
theorem dX11_mark_8 : decode cX11_mark 8 = .ok (.astore_n 1, 1) := eX11_mark_0.2.2.2.2.1
theorem dX11_mark_9 : decode cX11_mark 9 = .ok (.aload_n 1, 1) := eX11_mark_0.2.2.2.2.2.1
theorem dX11_mark_10 : decode cX11_mark 10 = .ok (.ifnonnull 10, 3) := eX11_mark_0.2.2.2.2.2.2.1
theorem dX11_mark_13 : decode cX11_mark 13 = .ok (.aload_n 0, 1) := eX11_mark_0.2.2.2.2.2.2.2.1
theorem eX11_mark_14 : decode cX11_mark 14 = .ok (.bipush 7, 2) ∧ decode cX11_mark 16 = .ok (.invokevirtual 109, 3) ∧ decode cX11_mark 19 = .ok (.ireturn, 1) ∧ decode cX11_mark 20 = .ok (.aload_n 1, 1) ∧ decode cX11_mark 21 = .ok (.aload_n 0, 1) ∧ decode cX11_mark 22 = .ok (.getfield 42, 3) ∧ decode cX11_mark 25 = .ok (.invokevirtual 144, 3) ∧ decode cX11_mark 28 = .ok (.aload_n 0, 1) ∧ True := dkl_ok (c := cX11_mark) [(.bipush 7, 2), (.invokevirtual 109, 3), (.ireturn, 1), (.aload_n 1, 1), (.aload_n 0, 1), (.getfield 42, 3), (.invokevirtual 144, 3), (.aload_n 0, 1)] 14 (by decide +kernel)
theorem dX11_mark_14 : decode cX11_mark 14 = .ok (.bipush 7, 2) := eX11_mark_14.1
theorem dX11_mark_16 : decode cX11_mark 16 = .ok (.invokevirtual 109, 3) := eX11_mark_14.2.1
theorem dX11_mark_19 : decode cX11_mark 19 = .ok (.ireturn, 1) := eX11_mark_14.2.2.1
theorem dX11_mark_20 : decode cX11_mark 20 = .ok (.aload_n 1, 1) := eX11_mark_14.2.2.2.1
theorem dX11_mark_21 : decode cX11_mark 21 = .ok (.aload_n 0, 1) := eX11_mark_14.2.2.2.2.1
theorem dX11_mark_22 : decode cX11_mark 22 = .ok (.getfield 42, 3) := eX11_mark_14.2.2.2.2.2.1
theorem dX11_mark_25 : decode cX11_mark 25 = .ok (.invokevirtual 144, 3) := eX11_mark_14.2.2.2.2.2.2.1
theorem dX11_mark_28 : decode cX11_mark 28 = .ok (.aload_n 0, 1) := eX11_mark_14.2.2.2.2.2.2.2.1
theorem eX11_mark_29 : decode cX11_mark 29 = .ok (.dup, 1) ∧ decode cX11_mark 30 = .ok (.getfield 53, 3) ∧ decode cX11_mark 33 = .ok (.iconst 1, 1) ∧ decode cX11_mark 34 = .ok (.iadd, 1) ∧ decode cX11_mark 35 = .ok (.putfield 53, 3) ∧ decode cX11_mark 38 = .ok (.aload_n 0, 1) ∧ decode cX11_mark 39 = .ok (.aload_n 0, 1) ∧ decode cX11_mark 40 = .ok (.getfield 53, 3) ∧ True := dkl_ok (c := cX11_mark) [(.dup, 1), (.getfield 53, 3), (.iconst 1, 1), (.iadd, 1), (.putfield 53, 3), (.aload_n 0, 1), (.aload_n 0, 1), (.getfield 53, 3)] 29 (by decide +kernel)
theorem dX11_mark_29 : decode cX11_mark 29 = .ok (.dup, 1) := eX11_mark_29.1
theorem dX11_mark_30 : decode cX11_mark 30 = .ok (.getfield 53, 3) := eX11_mark_29.2.1
theorem dX11_mark_33 : decode cX11_mark 33 = .ok (.iconst 1, 1) := eX11_mark_29.2.2.1
theorem dX11_mark_34 : decode cX11_mark 34 = .ok (.iadd, 1) := eX11_mark_29.2.2.2.1
theorem dX11_mark_35 : decode cX11_mark 35 = .ok (.putfield 53, 3) := eX11_mark_29.2.2.2.2.1
theorem dX11_mark_38 : decode cX11_mark 38 = .ok (.aload_n 0, 1) := eX11_mark_29.2.2.2.2.2.1
theorem dX11_mark_39 : decode cX11_mark 39 = .ok (.aload_n 0, 1) := eX11_mark_29.2.2.2.2.2.2.1
theorem dX11_mark_40 : decode cX11_mark 40 = .ok (.getfield 53, 3) := eX11_mark_29.2.2.2.2.2.2.2.1
theorem eX11_mark_43 : decode cX11_mark 43 = .ok (.invokevirtual 156, 3) ∧ decode cX11_mark 46 = .ok (.ireturn, 1) ∧ True := dkl_ok (c := cX11_mark) [(.invokevirtual 156, 3), (.ireturn, 1)] 43 (by decide +kernel)
theorem dX11_mark_43 : decode cX11_mark 43 = .ok (.invokevirtual 156, 3) := eX11_mark_43.1
theorem dX11_mark_46 : decode cX11_mark 46 = .ok (.ireturn, 1) := eX11_mark_43.2.1
theorem eX11_back_0 : decode cX11_back 0 = .ok (.aload_n 0, 1) ∧ decode cX11_back 1 = .ok (.aload_n 0, 1) ∧ decode cX11_back 2 = .ok (.getfield 53, 3) ∧ decode cX11_back 5 = .ok (.iconst 1, 1) ∧ decode cX11_back 6 = .ok (.isub, 1) ∧ decode cX11_back 7 = .ok (.invokevirtual 420, 3) ∧ decode cX11_back 10 = .ok (.astore_n 1, 1) ∧ decode cX11_back 11 = .ok (.aload_n 1, 1) ∧ True := dkl_ok (c := cX11_back) [(.aload_n 0, 1), (.aload_n 0, 1), (.getfield 53, 3), (.iconst 1, 1), (.isub, 1), (.invokevirtual 420, 3), (.astore_n 1, 1), (.aload_n 1, 1)] 0 (by decide +kernel)
theorem dX11_back_0 : decode cX11_back 0 = .ok (.aload_n 0, 1) := eX11_back_0.1
theorem dX11_back_1 : decode cX11_back 1 = .ok (.aload_n 0, 1) := eX11_back_0.2.1
theorem dX11_back_2 : decode cX11_back 2 = .ok (.getfield 53, 3) := eX11_back_0.2.2.1
theorem dX11_back_5 : decode cX11_back 5 = .ok (.iconst 1, 1) := eX11_back_0.2.2.2.1
theorem dX11_back_6 : decode cX11_back 6 = .ok (.isub, 1) := eX11_back_0.2.2.2.2.1
theorem dX11_back_7 : decode cX11_back 7 = .ok (.invokevirtual 420, 3) := eX11_back_0.2.2.2.2.2.1
theorem dX11_back_10 : decode cX11_back 10 = .ok (.astore_n 1, 1) := eX11_back_0.2.2.2.2.2.2.1
theorem dX11_back_11 : decode cX11_back 11 = .ok (.aload_n 1, 1) := eX11_back_0.2.2.2.2.2.2.2.1
theorem eX11_back_12 : decode cX11_back 12 = .ok (.ifnonnull 10, 3) ∧ decode cX11_back 15 = .ok (.aload_n 0, 1) ∧ decode cX11_back 16 = .ok (.bipush 8, 2) ∧ decode cX11_back 18 = .ok (.invokevirtual 109, 3) ∧ decode cX11_back 21 = .ok (.ireturn, 1) ∧ decode cX11_back 22 = .ok (.aload_n 0, 1) ∧ decode cX11_back 23 = .ok (.getfield 42, 3) ∧ decode cX11_back 26 = .ok (.aload_n 1, 1) ∧ True := dkl_ok (c := cX11_back) [(.ifnonnull 10, 3), (.aload_n 0, 1), (.bipush 8, 2), (.invokevirtual 109, 3), (.ireturn, 1), (.aload_n 0, 1), (.getfield 42, 3), (.aload_n 1, 1)] 12 (by decide +kernel)
theorem dX11_back_12 : decode cX11_back 12 = .ok (.ifnonnull 10, 3) := eX11_back_12.1
theorem dX11_back_15 : decode cX11_back 15 = .ok (.aload_n 0, 1) := eX11_back_12.2.1
theorem dX11_back_16 : decode cX11_back 16 = .ok (.bipush 8, 2) := eX11_back_12.2.2.1
theorem dX11_back_18 : decode cX11_back 18 = .ok (.invokevirtual 109, 3) := eX11_back_12.2.2.2.1
theorem dX11_back_21 : decode cX11_back 21 = .ok (.ireturn, 1) := eX11_back_12.2.2.2.2.1
theorem dX11_back_22 : decode cX11_back 22 = .ok (.aload_n 0, 1) := eX11_back_12.2.2.2.2.2.1
theorem dX11_back_23 : decode cX11_back 23 = .ok (.getfield 42, 3) := eX11_back_12.2.2.2.2.2.2.1
theorem dX11_back_26 : decode cX11_back 26 = .ok (.aload_n 1, 1) := eX11_back_12.2.2.2.2.2.2.2.1
theorem eX11_back_27 : decode cX11_back 27 = .ok (.invokevirtual 144, 3) ∧ decode cX11_back 30 = .ok (.aload_n 0, 1) ∧ decode cX11_back 31 = .ok (.dup, 1) ∧ decode cX11_back 32 = .ok (.getfield 53, 3) ∧ decode cX11_back 35 = .ok (.iconst 1, 1) ∧ decode cX11_back 36 = .ok (.isub, 1) ∧ decode cX11_back 37 = .ok (.putfield 53, 3) ∧ decode cX11_back 40 = .ok (.aload_n 0, 1) ∧ True := dkl_ok (c := cX11_back) [(.invokevirtual 144, 3), (.aload_n 0, 1), (.dup, 1), (.getfield 53, 3), (.iconst 1, 1), (.isub, 1), (.putfield 53, 3), (.aload_n 0, 1)] 27 (by decide +kernel)
theorem dX11_back_27 : decode cX11_back 27 = .ok (.invokevirtual 144, 3) := eX11_back_27.1
theorem dX11_back_30 : decode cX11_back 30 = .ok (.aload_n 0, 1) := eX11_back_27.2.1
theorem dX11_back_31 : decode cX11_back 31 = .ok (.dup, 1) := eX11_back_27.2.2.1
theorem dX11_back_32 : decode cX11_back 32 = .ok (.getfield 53, 3) := eX11_back_27.2.2.2.1
theorem dX11_back_35 : decode cX11_back 35 = .ok (.iconst 1, 1) := eX11_back_27.2.2.2.2.1
theorem dX11_back_36 : decode cX11_back 36 = .ok (.isub, 1) := eX11_back_27.2.2.2.2.2.1
theorem dX11_back_37 : decode cX11_back 37 = .ok (.putfield 53, 3) := eX11_back_27.2.2.2.2.2.2.1
theorem dX11_back_40 : decode cX11_back 40 = .ok (.aload_n 0, 1) := eX11_back_27.2.2.2.2.2.2.2.1
theorem eX11_back_41 : decode cX11_back 41 = .ok (.aload_n 0, 1) ∧ decode cX11_back 42 = .ok (.getfield 53, 3) ∧ decode cX11_back 45 = .ok (.invokevirtual 156, 3) ∧ decode cX11_back 48 = .ok (.ireturn, 1) ∧ True := dkl_ok (c := cX11_back) [(.aload_n 0, 1), (.getfield 53, 3), (.invokevirtual 156, 3), (.ireturn, 1)] 41 (by decide +kernel)
theorem dX11_back_41 : decode cX11_back 41 = .ok (.aload_n 0, 1) := eX11_back_41.1
theorem dX11_back_42 : decode cX11_back 42 = .ok (.getfield 53, 3) := eX11_back_41.2.1
theorem dX11_back_45 : decode cX11_back 45 = .ok (.invokevirtual 156, 3) := eX11_back_41.2.2.1
theorem dX11_back_48 : decode cX11_back 48 = .ok (.ireturn, 1) := eX11_back_41.2.2.2.1
theorem eX11_markAt_0 : decode cX11_markAt 0 = .ok (.iload_n 1, 1) ∧ decode cX11_markAt 1 = .ok (.ifCond .lt 17, 3) ∧ decode cX11_markAt 4 = .ok (.iload_n 1, 1) ∧ decode cX11_markAt 5 = .ok (.iconst 3, 1) ∧ decode cX11_markAt 6 = .ok (.if_icmp .ge 12, 3) ∧ decode cX11_markAt 9 = .ok (.aload_n 0, 1) ∧ decode cX11_markAt 10 = .ok (.getfield 49, 3) ∧ decode cX11_markAt 13 = .ok (.iload_n 1, 1) ∧ True := dkl_ok (c := cX11_markAt) [(.iload_n 1, 1), (.ifCond .lt 17, 3), (.iload_n 1, 1), (.iconst 3, 1), (.if_icmp .ge 12, 3), (.aload_n 0, 1), (.getfield 49, 3), (.iload_n 1, 1)] 0 (by decide +kernel)
theorem dX11_markAt_0 : decode cX11_markAt 0 = .ok (.iload_n 1, 1) := eX11_markAt_0.1
theorem dX11_markAt_1 : decode cX11_markAt 1 = .ok (.ifCond .lt 17, 3) := eX11_markAt_0.2.1
theorem dX11_markAt_4 : decode cX11_markAt 4 = .ok (.iload_n 1, 1) := eX11_markAt_0.2.2.1
theorem dX11_markAt_5 : decode cX11_markAt 5 = .ok (.iconst 3, 1) := eX11_markAt_0.2.2.2.1
theorem dX11_markAt_6 : decode cX11_markAt 6 = .ok (.if_icmp .ge 12, 3) := eX11_markAt_0.2.2.2.2.1
theorem dX11_markAt_9 : decode cX11_markAt 9 = .ok (.aload_n 0, 1) := eX11_markAt_0.2.2.2.2.2.1
theorem dX11_markAt_10 : decode cX11_markAt 10 = .ok (.getfield 49, 3) := eX11_markAt_0.2.2.2.2.2.2.1
theorem dX11_markAt_13 : decode cX11_markAt 13 = .ok (.iload_n 1, 1) := eX11_markAt_0.2.2.2.2.2.2.2.1
theorem eX11_markAt_14 : decode cX11_markAt 14 = .ok (.aaload, 1) ∧ decode cX11_markAt 15 = .ok (.goto 4, 3) ∧ decode cX11_markAt 18 = .ok (.aconst_null, 1) ∧ decode cX11_markAt 19 = .ok (.areturn, 1) ∧ True := dkl_ok (c := cX11_markAt) [(.aaload, 1), (.goto 4, 3), (.aconst_null, 1), (.areturn, 1)] 14 (by decide +kernel)
theorem dX11_markAt_14 : decode cX11_markAt 14 = .ok (.aaload, 1) := eX11_markAt_14.1
theorem dX11_markAt_15 : decode cX11_markAt 15 = .ok (.goto 4, 3) := eX11_markAt_14.2.1
theorem dX11_markAt_18 : decode cX11_markAt 18 = .ok (.aconst_null, 1) := eX11_markAt_14.2.2.1
theorem dX11_markAt_19 : decode cX11_markAt 19 = .ok (.areturn, 1) := eX11_markAt_14.2.2.2.1
theorem eX11_good_0 : decode cX11_good 0 = .ok (.aload_n 0, 1) ∧ decode cX11_good 1 = .ok (.iconst 0, 1) ∧ decode cX11_good 2 = .ok (.putfield 9, 3) ∧ decode cX11_good 5 = .ok (.iload_n 1, 1) ∧ decode cX11_good 6 = .ok (.ireturn, 1) ∧ True := dkl_ok (c := cX11_good) [(.aload_n 0, 1), (.iconst 0, 1), (.putfield 9, 3), (.iload_n 1, 1), (.ireturn, 1)] 0 (by decide +kernel)
theorem dX11_good_0 : decode cX11_good 0 = .ok (.aload_n 0, 1) := eX11_good_0.1
theorem dX11_good_1 : decode cX11_good 1 = .ok (.iconst 0, 1) := eX11_good_0.2.1
theorem dX11_good_2 : decode cX11_good 2 = .ok (.putfield 9, 3) := eX11_good_0.2.2.1
theorem dX11_good_5 : decode cX11_good 5 = .ok (.iload_n 1, 1) := eX11_good_0.2.2.2.1
theorem dX11_good_6 : decode cX11_good 6 = .ok (.ireturn, 1) := eX11_good_0.2.2.2.2.1
theorem eX11_none_0 : decode cX11_none 0 = .ok (.aload_n 0, 1) ∧ decode cX11_none 1 = .ok (.iload_n 1, 1) ∧ decode cX11_none 2 = .ok (.putfield 9, 3) ∧ decode cX11_none 5 = .ok (.iconst (-1), 1) ∧ decode cX11_none 6 = .ok (.ireturn, 1) ∧ True := dkl_ok (c := cX11_none) [(.aload_n 0, 1), (.iload_n 1, 1), (.putfield 9, 3), (.iconst (-1), 1), (.ireturn, 1)] 0 (by decide +kernel)
theorem dX11_none_0 : decode cX11_none 0 = .ok (.aload_n 0, 1) := eX11_none_0.1
theorem dX11_none_1 : decode cX11_none 1 = .ok (.iload_n 1, 1) := eX11_none_0.2.1
theorem dX11_none_2 : decode cX11_none 2 = .ok (.putfield 9, 3) := eX11_none_0.2.2.1
theorem dX11_none_5 : decode cX11_none 5 = .ok (.iconst (-1), 1) := eX11_none_0.2.2.2.1
theorem dX11_none_6 : decode cX11_none 6 = .ok (.ireturn, 1) := eX11_none_0.2.2.2.2.1
theorem eX11_goodOrNotThere_0 : decode cX11_goodOrNotThere 0 = .ok (.iload_n 1, 1) ∧ decode cX11_goodOrNotThere 1 = .ok (.iconst (-1), 1) ∧ decode cX11_goodOrNotThere 2 = .ok (.if_icmp .ne 12, 3) ∧ decode cX11_goodOrNotThere 5 = .ok (.aload_n 0, 1) ∧ decode cX11_goodOrNotThere 6 = .ok (.bipush 8, 2) ∧ decode cX11_goodOrNotThere 8 = .ok (.invokevirtual 109, 3) ∧ decode cX11_goodOrNotThere 11 = .ok (.goto 8, 3) ∧ decode cX11_goodOrNotThere 14 = .ok (.aload_n 0, 1) ∧ True := dkl_ok (c := cX11_goodOrNotThere) [(.iload_n 1, 1), (.iconst (-1), 1), (.if_icmp .ne 12, 3), (.aload_n 0, 1), (.bipush 8, 2), (.invokevirtual 109, 3), (.goto 8, 3), (.aload_n 0, 1)] 0 (by decide +kernel)
theorem dX11_goodOrNotThere_0 : decode cX11_goodOrNotThere 0 = .ok (.iload_n 1, 1) := eX11_goodOrNotThere_0.1
theorem dX11_goodOrNotThere_1 : decode cX11_goodOrNotThere 1 = .ok (.iconst (-1), 1) := eX11_goodOrNotThere_0.2.1
theorem dX11_goodOrNotThere_2 : decode cX11_goodOrNotThere 2 = .ok (.if_icmp .ne 12, 3) := eX11_goodOrNotThere_0.2.2.1
theorem dX11_goodOrNotThere_5 : decode cX11_goodOrNotThere 5 = .ok (.aload_n 0, 1) := eX11_goodOrNotThere_0.2.2.2.1
theorem dX11_goodOrNotThere_6 : decode cX11_goodOrNotThere 6 = .ok (.bipush 8, 2) := eX11_goodOrNotThere_0.2.2.2.2.1
theorem dX11_goodOrNotThere_8 : decode cX11_goodOrNotThere 8 = .ok (.invokevirtual 109, 3) := eX11_goodOrNotThere_0.2.2.2.2.2.1
theorem dX11_goodOrNotThere_11 : decode cX11_goodOrNotThere 11 = .ok (.goto 8, 3) := eX11_goodOrNotThere_0.2.2.2.2.2.2.1
theorem dX11_goodOrNotThere_14 : decode cX11_goodOrNotThere 14 = .ok (.aload_n 0, 1) := eX11_goodOrNotThere_0.2.2.2.2.2.2.2.1
theorem eX11_goodOrNotThere_15 : decode cX11_goodOrNotThere 15 = .ok (.iload_n 1, 1) ∧ decode cX11_goodOrNotThere 16 = .ok (.invokevirtual 156, 3) ∧ decode cX11_goodOrNotThere 19 = .ok (.ireturn, 1) ∧ True := dkl_ok (c := cX11_goodOrNotThere) [(.iload_n 1, 1), (.invokevirtual 156, 3), (.ireturn, 1)] 15 (by decide +kernel)
theorem dX11_goodOrNotThere_15 : decode cX11_goodOrNotThere 15 = .ok (.iload_n 1, 1) := eX11_goodOrNotThere_15.1
theorem dX11_goodOrNotThere_16 : decode cX11_goodOrNotThere 16 = .ok (.invokevirtual 156, 3) := eX11_goodOrNotThere_15.2.1
theorem dX11_goodOrNotThere_19 : decode cX11_goodOrNotThere 19 = .ok (.ireturn, 1) := eX11_goodOrNotThere_15.2.2.1
theorem eX11_yes_0 : decode cX11_yes 0 = .ok (.aload_n 0, 1) ∧ decode cX11_yes 1 = .ok (.iconst 0, 1) ∧ decode cX11_yes 2 = .ok (.putfield 9, 3) ∧ decode cX11_yes 5 = .ok (.iconst 1, 1) ∧ decode cX11_yes 6 = .ok (.ireturn, 1) ∧ True := dkl_ok (c := cX11_yes) [(.aload_n 0, 1), (.iconst 0, 1), (.putfield 9, 3), (.iconst 1, 1), (.ireturn, 1)] 0 (by decide +kernel)
theorem dX11_yes_0 : decode cX11_yes 0 = .ok (.aload_n 0, 1) := eX11_yes_0.1
theorem dX11_yes_1 : decode cX11_yes 1 = .ok (.iconst 0, 1) := eX11_yes_0.2.1
theorem dX11_yes_2 : decode cX11_yes 2 = .ok (.putfield 9, 3) := eX11_yes_0.2.2.1
theorem dX11_yes_5 : decode cX11_yes 5 = .ok (.iconst 1, 1) := eX11_yes_0.2.2.2.1
theorem dX11_yes_6 : decode cX11_yes 6 = .ok (.ireturn, 1) := eX11_yes_0.2.2.2.2.1
theorem eX11_no_0 : decode cX11_no 0 = .ok (.aload_n 0, 1) ∧ decode cX11_no 1 = .ok (.iload_n 1, 1) ∧ decode cX11_no 2 = .ok (.putfield 9, 3) ∧ decode cX11_no 5 = .ok (.iconst 0, 1) ∧ decode cX11_no 6 = .ok (.ireturn, 1) ∧ True := dkl_ok (c := cX11_no) [(.aload_n 0, 1), (.iload_n 1, 1), (.putfield 9, 3), (.iconst 0, 1), (.ireturn, 1)] 0 (by decide +kernel)
theorem dX11_no_0 : decode cX11_no 0 = .ok (.aload_n 0, 1) := eX11_no_0.1
theorem dX11_no_1 : decode cX11_no 1 = .ok (.iload_n 1, 1) := eX11_no_0.2.1
theorem dX11_no_2 : decode cX11_no 2 = .ok (.putfield 9, 3) := eX11_no_0.2.2.1
theorem dX11_no_5 : decode cX11_no 5 = .ok (.iconst 0, 1) := eX11_no_0.2.2.2.1
theorem dX11_no_6 : decode cX11_no 6 = .ok (.ireturn, 1) := eX11_no_0.2.2.2.2.1
theorem eX11_tell_0 : decode cX11_tell 0 = .ok (.lload_n 1, 1) ∧ decode cX11_tell 1 = .ok (.invokestatic 424, 3) ∧ decode cX11_tell 4 = .ok (.lload_n 3, 1) ∧ decode cX11_tell 5 = .ok (.invokestatic 428, 3) ∧ decode cX11_tell 8 = .ok (.lstore 5, 2) ∧ decode cX11_tell 10 = .ok (.lload_n 1, 1) ∧ decode cX11_tell 11 = .ok (.lconst 0, 1) ∧ decode cX11_tell 12 = .ok (.lcmp, 1) ∧ True := dkl_ok (c := cX11_tell) [(.lload_n 1, 1), (.invokestatic 424, 3), (.lload_n 3, 1), (.invokestatic 428, 3), (.lstore 5, 2), (.lload_n 1, 1), (.lconst 0, 1), (.lcmp, 1)] 0 (by decide +kernel)
theorem dX11_tell_0 : decode cX11_tell 0 = .ok (.lload_n 1, 1) := eX11_tell_0.1
theorem dX11_tell_1 : decode cX11_tell 1 = .ok (.invokestatic 424, 3) := eX11_tell_0.2.1
theorem dX11_tell_4 : decode cX11_tell 4 = .ok (.lload_n 3, 1) := eX11_tell_0.2.2.1
theorem dX11_tell_5 : decode cX11_tell 5 = .ok (.invokestatic 428, 3) := eX11_tell_0.2.2.2.1
theorem dX11_tell_8 : decode cX11_tell 8 = .ok (.lstore 5, 2) := eX11_tell_0.2.2.2.2.1
theorem dX11_tell_10 : decode cX11_tell 10 = .ok (.lload_n 1, 1) := eX11_tell_0.2.2.2.2.2.1
theorem dX11_tell_11 : decode cX11_tell 11 = .ok (.lconst 0, 1) := eX11_tell_0.2.2.2.2.2.2.1
theorem dX11_tell_12 : decode cX11_tell 12 = .ok (.lcmp, 1) := eX11_tell_0.2.2.2.2.2.2.2.1
theorem eX11_tell_13 : decode cX11_tell 13 = .ok (.ifCond .eq 16, 3) ∧ decode cX11_tell 16 = .ok (.lload_n 3, 1) ∧ decode cX11_tell 17 = .ok (.lconst 0, 1) ∧ decode cX11_tell 18 = .ok (.lcmp, 1) ∧ decode cX11_tell 19 = .ok (.ifCond .le 10, 3) ∧ decode cX11_tell 22 = .ok (.lload 5, 2) ∧ decode cX11_tell 24 = .ok (.lconst 0, 1) ∧ decode cX11_tell 25 = .ok (.lcmp, 1) ∧ True := dkl_ok (c := cX11_tell) [(.ifCond .eq 16, 3), (.lload_n 3, 1), (.lconst 0, 1), (.lcmp, 1), (.ifCond .le 10, 3), (.lload 5, 2), (.lconst 0, 1), (.lcmp, 1)] 13 (by decide +kernel)
theorem dX11_tell_13 : decode cX11_tell 13 = .ok (.ifCond .eq 16, 3) := eX11_tell_13.1
theorem dX11_tell_16 : decode cX11_tell 16 = .ok (.lload_n 3, 1) := eX11_tell_13.2.1
theorem dX11_tell_17 : decode cX11_tell 17 = .ok (.lconst 0, 1) := eX11_tell_13.2.2.1
theorem dX11_tell_18 : decode cX11_tell 18 = .ok (.lcmp, 1) := eX11_tell_13.2.2.2.1
theorem dX11_tell_19 : decode cX11_tell 19 = .ok (.ifCond .le 10, 3) := eX11_tell_13.2.2.2.2.1
theorem dX11_tell_22 : decode cX11_tell 22 = .ok (.lload 5, 2) := eX11_tell_13.2.2.2.2.2.1
theorem dX11_tell_24 : decode cX11_tell 24 = .ok (.lconst 0, 1) := eX11_tell_13.2.2.2.2.2.2.1
theorem dX11_tell_25 : decode cX11_tell 25 = .ok (.lcmp, 1) := eX11_tell_13.2.2.2.2.2.2.2.1
theorem eX11_tell_26 : decode cX11_tell 26 = .ok (.ifCond .gt 16, 3) ∧ decode cX11_tell 29 = .ok (.aload_n 0, 1) ∧ decode cX11_tell 30 = .ok (.lconst 0, 1) ∧ decode cX11_tell 31 = .ok (.putfield 13, 3) ∧ decode cX11_tell 34 = .ok (.aload_n 0, 1) ∧ decode cX11_tell 35 = .ok (.lconst 1, 1) ∧ decode cX11_tell 36 = .ok (.putfield 17, 3) ∧ decode cX11_tell 39 = .ok (.goto 19, 3) ∧ True := dkl_ok (c := cX11_tell) [(.ifCond .gt 16, 3), (.aload_n 0, 1), (.lconst 0, 1), (.putfield 13, 3), (.aload_n 0, 1), (.lconst 1, 1), (.putfield 17, 3), (.goto 19, 3)] 26 (by decide +kernel)
theorem dX11_tell_26 : decode cX11_tell 26 = .ok (.ifCond .gt 16, 3) := eX11_tell_26.1
theorem dX11_tell_29 : decode cX11_tell 29 = .ok (.aload_n 0, 1) := eX11_tell_26.2.1
theorem dX11_tell_30 : decode cX11_tell 30 = .ok (.lconst 0, 1) := eX11_tell_26.2.2.1
theorem dX11_tell_31 : decode cX11_tell 31 = .ok (.putfield 13, 3) := eX11_tell_26.2.2.2.1
theorem dX11_tell_34 : decode cX11_tell 34 = .ok (.aload_n 0, 1) := eX11_tell_26.2.2.2.2.1
theorem dX11_tell_35 : decode cX11_tell 35 = .ok (.lconst 1, 1) := eX11_tell_26.2.2.2.2.2.1
theorem dX11_tell_36 : decode cX11_tell 36 = .ok (.putfield 17, 3) := eX11_tell_26.2.2.2.2.2.2.1
theorem dX11_tell_39 : decode cX11_tell 39 = .ok (.goto 19, 3) := eX11_tell_26.2.2.2.2.2.2.2.1
theorem eX11_tell_42 : decode cX11_tell 42 = .ok (.aload_n 0, 1) ∧ decode cX11_tell 43 = .ok (.lload_n 1, 1) ∧ decode cX11_tell 44 = .ok (.lload 5, 2) ∧ decode cX11_tell 46 = .ok (.ldiv, 1) ∧ decode cX11_tell 47 = .ok (.putfield 13, 3) ∧ decode cX11_tell 50 = .ok (.aload_n 0, 1) ∧ decode cX11_tell 51 = .ok (.lload_n 3, 1) ∧ decode cX11_tell 52 = .ok (.lload 5, 2) ∧ True := dkl_ok (c := cX11_tell) [(.aload_n 0, 1), (.lload_n 1, 1), (.lload 5, 2), (.ldiv, 1), (.putfield 13, 3), (.aload_n 0, 1), (.lload_n 3, 1), (.lload 5, 2)] 42 (by decide +kernel)
theorem dX11_tell_42 : decode cX11_tell 42 = .ok (.aload_n 0, 1) := eX11_tell_42.1
theorem dX11_tell_43 : decode cX11_tell 43 = .ok (.lload_n 1, 1) := eX11_tell_42.2.1
theorem dX11_tell_44 : decode cX11_tell 44 = .ok (.lload 5, 2) := eX11_tell_42.2.2.1
theorem dX11_tell_46 : decode cX11_tell 46 = .ok (.ldiv, 1) := eX11_tell_42.2.2.2.1
theorem dX11_tell_47 : decode cX11_tell 47 = .ok (.putfield 13, 3) := eX11_tell_42.2.2.2.2.1
theorem dX11_tell_50 : decode cX11_tell 50 = .ok (.aload_n 0, 1) := eX11_tell_42.2.2.2.2.2.1
theorem dX11_tell_51 : decode cX11_tell 51 = .ok (.lload_n 3, 1) := eX11_tell_42.2.2.2.2.2.2.1
theorem dX11_tell_52 : decode cX11_tell 52 = .ok (.lload 5, 2) := eX11_tell_42.2.2.2.2.2.2.2.1
theorem eX11_tell_54 : decode cX11_tell 54 = .ok (.ldiv, 1) ∧ decode cX11_tell 55 = .ok (.putfield 17, 3) ∧ decode cX11_tell 58 = .ok (.aload_n 0, 1) ∧ decode cX11_tell 59 = .ok (.invokevirtual 97, 3) ∧ decode cX11_tell 62 = .ok (.ireturn, 1) ∧ True := dkl_ok (c := cX11_tell) [(.ldiv, 1), (.putfield 17, 3), (.aload_n 0, 1), (.invokevirtual 97, 3), (.ireturn, 1)] 54 (by decide +kernel)
theorem dX11_tell_54 : decode cX11_tell 54 = .ok (.ldiv, 1) := eX11_tell_54.1
theorem dX11_tell_55 : decode cX11_tell 55 = .ok (.putfield 17, 3) := eX11_tell_54.2.1
theorem dX11_tell_58 : decode cX11_tell 58 = .ok (.aload_n 0, 1) := eX11_tell_54.2.2.1
theorem dX11_tell_59 : decode cX11_tell 59 = .ok (.invokevirtual 97, 3) := eX11_tell_54.2.2.2.1
theorem dX11_tell_62 : decode cX11_tell 62 = .ok (.ireturn, 1) := eX11_tell_54.2.2.2.2.1
theorem eX11_commonDivisor_0 : decode cX11_commonDivisor 0 = .ok (.iconst 0, 1) ∧ decode cX11_commonDivisor 1 = .ok (.istore 4, 2) ∧ decode cX11_commonDivisor 3 = .ok (.iload 4, 2) ∧ decode cX11_commonDivisor 5 = .ok (.sipush 200, 3) ∧ decode cX11_commonDivisor 8 = .ok (.if_icmp .ge 25, 3) ∧ decode cX11_commonDivisor 11 = .ok (.lload_n 2, 1) ∧ decode cX11_commonDivisor 12 = .ok (.lconst 0, 1) ∧ decode cX11_commonDivisor 13 = .ok (.lcmp, 1) ∧ True := dkl_ok (c := cX11_commonDivisor) [(.iconst 0, 1), (.istore 4, 2), (.iload 4, 2), (.sipush 200, 3), (.if_icmp .ge 25, 3), (.lload_n 2, 1), (.lconst 0, 1), (.lcmp, 1)] 0 (by decide +kernel)
theorem dX11_commonDivisor_0 : decode cX11_commonDivisor 0 = .ok (.iconst 0, 1) := eX11_commonDivisor_0.1
theorem dX11_commonDivisor_1 : decode cX11_commonDivisor 1 = .ok (.istore 4, 2) := eX11_commonDivisor_0.2.1
theorem dX11_commonDivisor_3 : decode cX11_commonDivisor 3 = .ok (.iload 4, 2) := eX11_commonDivisor_0.2.2.1
theorem dX11_commonDivisor_5 : decode cX11_commonDivisor 5 = .ok (.sipush 200, 3) := eX11_commonDivisor_0.2.2.2.1
theorem dX11_commonDivisor_8 : decode cX11_commonDivisor 8 = .ok (.if_icmp .ge 25, 3) := eX11_commonDivisor_0.2.2.2.2.1
theorem dX11_commonDivisor_11 : decode cX11_commonDivisor 11 = .ok (.lload_n 2, 1) := eX11_commonDivisor_0.2.2.2.2.2.1
theorem dX11_commonDivisor_12 : decode cX11_commonDivisor 12 = .ok (.lconst 0, 1) := eX11_commonDivisor_0.2.2.2.2.2.2.1
theorem dX11_commonDivisor_13 : decode cX11_commonDivisor 13 = .ok (.lcmp, 1) := eX11_commonDivisor_0.2.2.2.2.2.2.2.1
theorem eX11_commonDivisor_14 : decode cX11_commonDivisor 14 = .ok (.ifCond .eq 19, 3) ∧ decode cX11_commonDivisor 17 = .ok (.lload_n 0, 1) ∧ decode cX11_commonDivisor 18 = .ok (.lload_n 2, 1) ∧ decode cX11_commonDivisor 19 = .ok (.lrem, 1) ∧ decode cX11_commonDivisor 20 = .ok (.lstore 5, 2) ∧ decode cX11_commonDivisor 22 = .ok (.lload_n 2, 1) ∧ decode cX11_commonDivisor 23 = .ok (.lstore_n 0, 1) ∧ decode cX11_commonDivisor 24 = .ok (.lload 5, 2) ∧ True := dkl_ok (c := cX11_commonDivisor) [(.ifCond .eq 19, 3), (.lload_n 0, 1), (.lload_n 2, 1), (.lrem, 1), (.lstore 5, 2), (.lload_n 2, 1), (.lstore_n 0, 1), (.lload 5, 2)] 14 (by decide +kernel)
theorem dX11_commonDivisor_14 : decode cX11_commonDivisor 14 = .ok (.ifCond .eq 19, 3) := eX11_commonDivisor_14.1
theorem dX11_commonDivisor_17 : decode cX11_commonDivisor 17 = .ok (.lload_n 0, 1) := eX11_commonDivisor_14.2.1
theorem dX11_commonDivisor_18 : decode cX11_commonDivisor 18 = .ok (.lload_n 2, 1) := eX11_commonDivisor_14.2.2.1
theorem dX11_commonDivisor_19 : decode cX11_commonDivisor 19 = .ok (.lrem, 1) := eX11_commonDivisor_14.2.2.2.1
theorem dX11_commonDivisor_20 : decode cX11_commonDivisor 20 = .ok (.lstore 5, 2) := eX11_commonDivisor_14.2.2.2.2.1
theorem dX11_commonDivisor_22 : decode cX11_commonDivisor 22 = .ok (.lload_n 2, 1) := eX11_commonDivisor_14.2.2.2.2.2.1
theorem dX11_commonDivisor_23 : decode cX11_commonDivisor 23 = .ok (.lstore_n 0, 1) := eX11_commonDivisor_14.2.2.2.2.2.2.1
theorem dX11_commonDivisor_24 : decode cX11_commonDivisor 24 = .ok (.lload 5, 2) := eX11_commonDivisor_14.2.2.2.2.2.2.2.1
theorem eX11_commonDivisor_26 : decode cX11_commonDivisor 26 = .ok (.lstore_n 2, 1) ∧ decode cX11_commonDivisor 27 = .ok (.iinc 4 1, 3) ∧ decode cX11_commonDivisor 30 = .ok (.goto (-27), 3) ∧ decode cX11_commonDivisor 33 = .ok (.lload_n 0, 1) ∧ decode cX11_commonDivisor 34 = .ok (.lreturn, 1) ∧ True := dkl_ok (c := cX11_commonDivisor) [(.lstore_n 2, 1), (.iinc 4 1, 3), (.goto (-27), 3), (.lload_n 0, 1), (.lreturn, 1)] 26 (by decide +kernel)
theorem dX11_commonDivisor_26 : decode cX11_commonDivisor 26 = .ok (.lstore_n 2, 1) := eX11_commonDivisor_26.1
theorem dX11_commonDivisor_27 : decode cX11_commonDivisor 27 = .ok (.iinc 4 1, 3) := eX11_commonDivisor_26.2.1
theorem dX11_commonDivisor_30 : decode cX11_commonDivisor 30 = .ok (.goto (-27), 3) := eX11_commonDivisor_26.2.2.1
theorem dX11_commonDivisor_33 : decode cX11_commonDivisor 33 = .ok (.lload_n 0, 1) := eX11_commonDivisor_26.2.2.2.1
theorem dX11_commonDivisor_34 : decode cX11_commonDivisor 34 = .ok (.lreturn, 1) := eX11_commonDivisor_26.2.2.2.2.1
theorem eX11_waysToTake_0 : decode cX11_waysToTake 0 = .ok (.iload_n 1, 1) ∧ decode cX11_waysToTake 1 = .ok (.iload_n 0, 1) ∧ decode cX11_waysToTake 2 = .ok (.if_icmp .le 5, 3) ∧ decode cX11_waysToTake 5 = .ok (.lconst 0, 1) ∧ decode cX11_waysToTake 6 = .ok (.lreturn, 1) ∧ decode cX11_waysToTake 7 = .ok (.lconst 1, 1) ∧ decode cX11_waysToTake 8 = .ok (.lstore_n 2, 1) ∧ decode cX11_waysToTake 9 = .ok (.iconst 0, 1) ∧ True := dkl_ok (c := cX11_waysToTake) [(.iload_n 1, 1), (.iload_n 0, 1), (.if_icmp .le 5, 3), (.lconst 0, 1), (.lreturn, 1), (.lconst 1, 1), (.lstore_n 2, 1), (.iconst 0, 1)] 0 (by decide +kernel)
theorem dX11_waysToTake_0 : decode cX11_waysToTake 0 = .ok (.iload_n 1, 1) := eX11_waysToTake_0.1
theorem dX11_waysToTake_1 : decode cX11_waysToTake 1 = .ok (.iload_n 0, 1) := eX11_waysToTake_0.2.1
theorem dX11_waysToTake_2 : decode cX11_waysToTake 2 = .ok (.if_icmp .le 5, 3) := eX11_waysToTake_0.2.2.1
theorem dX11_waysToTake_5 : decode cX11_waysToTake 5 = .ok (.lconst 0, 1) := eX11_waysToTake_0.2.2.2.1
theorem dX11_waysToTake_6 : decode cX11_waysToTake 6 = .ok (.lreturn, 1) := eX11_waysToTake_0.2.2.2.2.1
theorem dX11_waysToTake_7 : decode cX11_waysToTake 7 = .ok (.lconst 1, 1) := eX11_waysToTake_0.2.2.2.2.2.1
theorem dX11_waysToTake_8 : decode cX11_waysToTake 8 = .ok (.lstore_n 2, 1) := eX11_waysToTake_0.2.2.2.2.2.2.1
theorem dX11_waysToTake_9 : decode cX11_waysToTake 9 = .ok (.iconst 0, 1) := eX11_waysToTake_0.2.2.2.2.2.2.2.1
theorem eX11_waysToTake_10 : decode cX11_waysToTake 10 = .ok (.istore 4, 2) ∧ decode cX11_waysToTake 12 = .ok (.iload 4, 2) ∧ decode cX11_waysToTake 14 = .ok (.iload_n 1, 1) ∧ decode cX11_waysToTake 15 = .ok (.if_icmp .ge 23, 3) ∧ decode cX11_waysToTake 18 = .ok (.lload_n 2, 1) ∧ decode cX11_waysToTake 19 = .ok (.iload_n 0, 1) ∧ decode cX11_waysToTake 20 = .ok (.iload 4, 2) ∧ decode cX11_waysToTake 22 = .ok (.isub, 1) ∧ True := dkl_ok (c := cX11_waysToTake) [(.istore 4, 2), (.iload 4, 2), (.iload_n 1, 1), (.if_icmp .ge 23, 3), (.lload_n 2, 1), (.iload_n 0, 1), (.iload 4, 2), (.isub, 1)] 10 (by decide +kernel)
theorem dX11_waysToTake_10 : decode cX11_waysToTake 10 = .ok (.istore 4, 2) := eX11_waysToTake_10.1
theorem dX11_waysToTake_12 : decode cX11_waysToTake 12 = .ok (.iload 4, 2) := eX11_waysToTake_10.2.1
theorem dX11_waysToTake_14 : decode cX11_waysToTake 14 = .ok (.iload_n 1, 1) := eX11_waysToTake_10.2.2.1
theorem dX11_waysToTake_15 : decode cX11_waysToTake 15 = .ok (.if_icmp .ge 23, 3) := eX11_waysToTake_10.2.2.2.1
theorem dX11_waysToTake_18 : decode cX11_waysToTake 18 = .ok (.lload_n 2, 1) := eX11_waysToTake_10.2.2.2.2.1
theorem dX11_waysToTake_19 : decode cX11_waysToTake 19 = .ok (.iload_n 0, 1) := eX11_waysToTake_10.2.2.2.2.2.1
theorem dX11_waysToTake_20 : decode cX11_waysToTake 20 = .ok (.iload 4, 2) := eX11_waysToTake_10.2.2.2.2.2.2.1
theorem dX11_waysToTake_22 : decode cX11_waysToTake 22 = .ok (.isub, 1) := eX11_waysToTake_10.2.2.2.2.2.2.2.1
theorem eX11_waysToTake_23 : decode cX11_waysToTake 23 = .ok (.i2l, 1) ∧ decode cX11_waysToTake 24 = .ok (.lmul, 1) ∧ decode cX11_waysToTake 25 = .ok (.iload 4, 2) ∧ decode cX11_waysToTake 27 = .ok (.iconst 1, 1) ∧ decode cX11_waysToTake 28 = .ok (.iadd, 1) ∧ decode cX11_waysToTake 29 = .ok (.i2l, 1) ∧ decode cX11_waysToTake 30 = .ok (.ldiv, 1) ∧ decode cX11_waysToTake 31 = .ok (.lstore_n 2, 1) ∧ True := dkl_ok (c := cX11_waysToTake) [(.i2l, 1), (.lmul, 1), (.iload 4, 2), (.iconst 1, 1), (.iadd, 1), (.i2l, 1), (.ldiv, 1), (.lstore_n 2, 1)] 23 (by decide +kernel)
theorem dX11_waysToTake_23 : decode cX11_waysToTake 23 = .ok (.i2l, 1) := eX11_waysToTake_23.1
theorem dX11_waysToTake_24 : decode cX11_waysToTake 24 = .ok (.lmul, 1) := eX11_waysToTake_23.2.1
theorem dX11_waysToTake_25 : decode cX11_waysToTake 25 = .ok (.iload 4, 2) := eX11_waysToTake_23.2.2.1
theorem dX11_waysToTake_27 : decode cX11_waysToTake 27 = .ok (.iconst 1, 1) := eX11_waysToTake_23.2.2.2.1
theorem dX11_waysToTake_28 : decode cX11_waysToTake 28 = .ok (.iadd, 1) := eX11_waysToTake_23.2.2.2.2.1
theorem dX11_waysToTake_29 : decode cX11_waysToTake 29 = .ok (.i2l, 1) := eX11_waysToTake_23.2.2.2.2.2.1
theorem dX11_waysToTake_30 : decode cX11_waysToTake 30 = .ok (.ldiv, 1) := eX11_waysToTake_23.2.2.2.2.2.2.1
theorem dX11_waysToTake_31 : decode cX11_waysToTake 31 = .ok (.lstore_n 2, 1) := eX11_waysToTake_23.2.2.2.2.2.2.2.1
theorem eX11_waysToTake_32 : decode cX11_waysToTake 32 = .ok (.iinc 4 1, 3) ∧ decode cX11_waysToTake 35 = .ok (.goto (-23), 3) ∧ decode cX11_waysToTake 38 = .ok (.lload_n 2, 1) ∧ decode cX11_waysToTake 39 = .ok (.lreturn, 1) ∧ True := dkl_ok (c := cX11_waysToTake) [(.iinc 4 1, 3), (.goto (-23), 3), (.lload_n 2, 1), (.lreturn, 1)] 32 (by decide +kernel)
theorem dX11_waysToTake_32 : decode cX11_waysToTake 32 = .ok (.iinc 4 1, 3) := eX11_waysToTake_32.1
theorem dX11_waysToTake_35 : decode cX11_waysToTake 35 = .ok (.goto (-23), 3) := eX11_waysToTake_32.2.1
theorem dX11_waysToTake_38 : decode cX11_waysToTake 38 = .ok (.lload_n 2, 1) := eX11_waysToTake_32.2.2.1
theorem dX11_waysToTake_39 : decode cX11_waysToTake 39 = .ok (.lreturn, 1) := eX11_waysToTake_32.2.2.2.1
theorem eX11_isPlayer_0 : decode cX11_isPlayer 0 = .ok (.iload_n 1, 1) ∧ decode cX11_isPlayer 1 = .ok (.ifCond .lt 21, 3) ∧ decode cX11_isPlayer 4 = .ok (.iload_n 1, 1) ∧ decode cX11_isPlayer 5 = .ok (.aload_n 0, 1) ∧ decode cX11_isPlayer 6 = .ok (.getfield 42, 3) ∧ decode cX11_isPlayer 9 = .ok (.getfield 147, 3) ∧ decode cX11_isPlayer 12 = .ok (.getfield 151, 3) ∧ decode cX11_isPlayer 15 = .ok (.if_icmp .ge 7, 3) ∧ True := dkl_ok (c := cX11_isPlayer) [(.iload_n 1, 1), (.ifCond .lt 21, 3), (.iload_n 1, 1), (.aload_n 0, 1), (.getfield 42, 3), (.getfield 147, 3), (.getfield 151, 3), (.if_icmp .ge 7, 3)] 0 (by decide +kernel)
theorem dX11_isPlayer_0 : decode cX11_isPlayer 0 = .ok (.iload_n 1, 1) := eX11_isPlayer_0.1
theorem dX11_isPlayer_1 : decode cX11_isPlayer 1 = .ok (.ifCond .lt 21, 3) := eX11_isPlayer_0.2.1
theorem dX11_isPlayer_4 : decode cX11_isPlayer 4 = .ok (.iload_n 1, 1) := eX11_isPlayer_0.2.2.1
theorem dX11_isPlayer_5 : decode cX11_isPlayer 5 = .ok (.aload_n 0, 1) := eX11_isPlayer_0.2.2.2.1
theorem dX11_isPlayer_6 : decode cX11_isPlayer 6 = .ok (.getfield 42, 3) := eX11_isPlayer_0.2.2.2.2.1
theorem dX11_isPlayer_9 : decode cX11_isPlayer 9 = .ok (.getfield 147, 3) := eX11_isPlayer_0.2.2.2.2.2.1
theorem dX11_isPlayer_12 : decode cX11_isPlayer 12 = .ok (.getfield 151, 3) := eX11_isPlayer_0.2.2.2.2.2.2.1
theorem dX11_isPlayer_15 : decode cX11_isPlayer 15 = .ok (.if_icmp .ge 7, 3) := eX11_isPlayer_0.2.2.2.2.2.2.2.1
theorem eX11_isPlayer_18 : decode cX11_isPlayer 18 = .ok (.iconst 1, 1) ∧ decode cX11_isPlayer 19 = .ok (.goto 4, 3) ∧ decode cX11_isPlayer 22 = .ok (.iconst 0, 1) ∧ decode cX11_isPlayer 23 = .ok (.ireturn, 1) ∧ True := dkl_ok (c := cX11_isPlayer) [(.iconst 1, 1), (.goto 4, 3), (.iconst 0, 1), (.ireturn, 1)] 18 (by decide +kernel)
theorem dX11_isPlayer_18 : decode cX11_isPlayer 18 = .ok (.iconst 1, 1) := eX11_isPlayer_18.1
theorem dX11_isPlayer_19 : decode cX11_isPlayer 19 = .ok (.goto 4, 3) := eX11_isPlayer_18.2.1
theorem dX11_isPlayer_22 : decode cX11_isPlayer 22 = .ok (.iconst 0, 1) := eX11_isPlayer_18.2.2.1
theorem dX11_isPlayer_23 : decode cX11_isPlayer 23 = .ok (.ireturn, 1) := eX11_isPlayer_18.2.2.2.1
theorem eX11_isKind_0 : decode cX11_isKind 0 = .ok (.iload_n 1, 1) ∧ decode cX11_isKind 1 = .ok (.ifCond .lt 21, 3) ∧ decode cX11_isKind 4 = .ok (.iload_n 1, 1) ∧ decode cX11_isKind 5 = .ok (.aload_n 0, 1) ∧ decode cX11_isKind 6 = .ok (.getfield 42, 3) ∧ decode cX11_isKind 9 = .ok (.getfield 147, 3) ∧ decode cX11_isKind 12 = .ok (.getfield 183, 3) ∧ decode cX11_isKind 15 = .ok (.if_icmp .ge 7, 3) ∧ True := dkl_ok (c := cX11_isKind) [(.iload_n 1, 1), (.ifCond .lt 21, 3), (.iload_n 1, 1), (.aload_n 0, 1), (.getfield 42, 3), (.getfield 147, 3), (.getfield 183, 3), (.if_icmp .ge 7, 3)] 0 (by decide +kernel)
theorem dX11_isKind_0 : decode cX11_isKind 0 = .ok (.iload_n 1, 1) := eX11_isKind_0.1
theorem dX11_isKind_1 : decode cX11_isKind 1 = .ok (.ifCond .lt 21, 3) := eX11_isKind_0.2.1
theorem dX11_isKind_4 : decode cX11_isKind 4 = .ok (.iload_n 1, 1) := eX11_isKind_0.2.2.1
theorem dX11_isKind_5 : decode cX11_isKind 5 = .ok (.aload_n 0, 1) := eX11_isKind_0.2.2.2.1
theorem dX11_isKind_6 : decode cX11_isKind 6 = .ok (.getfield 42, 3) := eX11_isKind_0.2.2.2.2.1
theorem dX11_isKind_9 : decode cX11_isKind 9 = .ok (.getfield 147, 3) := eX11_isKind_0.2.2.2.2.2.1
theorem dX11_isKind_12 : decode cX11_isKind 12 = .ok (.getfield 183, 3) := eX11_isKind_0.2.2.2.2.2.2.1
theorem dX11_isKind_15 : decode cX11_isKind 15 = .ok (.if_icmp .ge 7, 3) := eX11_isKind_0.2.2.2.2.2.2.2.1
theorem eX11_isKind_18 : decode cX11_isKind 18 = .ok (.iconst 1, 1) ∧ decode cX11_isKind 19 = .ok (.goto 4, 3) ∧ decode cX11_isKind 22 = .ok (.iconst 0, 1) ∧ decode cX11_isKind 23 = .ok (.ireturn, 1) ∧ True := dkl_ok (c := cX11_isKind) [(.iconst 1, 1), (.goto 4, 3), (.iconst 0, 1), (.ireturn, 1)] 18 (by decide +kernel)
theorem dX11_isKind_18 : decode cX11_isKind 18 = .ok (.iconst 1, 1) := eX11_isKind_18.1
theorem dX11_isKind_19 : decode cX11_isKind 19 = .ok (.goto 4, 3) := eX11_isKind_18.2.1
theorem dX11_isKind_22 : decode cX11_isKind 22 = .ok (.iconst 0, 1) := eX11_isKind_18.2.2.1
theorem dX11_isKind_23 : decode cX11_isKind 23 = .ok (.ireturn, 1) := eX11_isKind_18.2.2.2.1
theorem eX11_isKindOrNone_0 : decode cX11_isKindOrNone 0 = .ok (.iload_n 1, 1) ∧ decode cX11_isKindOrNone 1 = .ok (.iconst (-1), 1) ∧ decode cX11_isKindOrNone 2 = .ok (.if_icmp .eq 11, 3) ∧ decode cX11_isKindOrNone 5 = .ok (.aload_n 0, 1) ∧ decode cX11_isKindOrNone 6 = .ok (.iload_n 1, 1) ∧ decode cX11_isKindOrNone 7 = .ok (.invokevirtual 250, 3) ∧ decode cX11_isKindOrNone 10 = .ok (.ifCond .eq 7, 3) ∧ decode cX11_isKindOrNone 13 = .ok (.iconst 1, 1) ∧ True := dkl_ok (c := cX11_isKindOrNone) [(.iload_n 1, 1), (.iconst (-1), 1), (.if_icmp .eq 11, 3), (.aload_n 0, 1), (.iload_n 1, 1), (.invokevirtual 250, 3), (.ifCond .eq 7, 3), (.iconst 1, 1)] 0 (by decide +kernel)
theorem dX11_isKindOrNone_0 : decode cX11_isKindOrNone 0 = .ok (.iload_n 1, 1) := eX11_isKindOrNone_0.1
theorem dX11_isKindOrNone_1 : decode cX11_isKindOrNone 1 = .ok (.iconst (-1), 1) := eX11_isKindOrNone_0.2.1
theorem dX11_isKindOrNone_2 : decode cX11_isKindOrNone 2 = .ok (.if_icmp .eq 11, 3) := eX11_isKindOrNone_0.2.2.1
theorem dX11_isKindOrNone_5 : decode cX11_isKindOrNone 5 = .ok (.aload_n 0, 1) := eX11_isKindOrNone_0.2.2.2.1
theorem dX11_isKindOrNone_6 : decode cX11_isKindOrNone 6 = .ok (.iload_n 1, 1) := eX11_isKindOrNone_0.2.2.2.2.1
theorem dX11_isKindOrNone_7 : decode cX11_isKindOrNone 7 = .ok (.invokevirtual 250, 3) := eX11_isKindOrNone_0.2.2.2.2.2.1
theorem dX11_isKindOrNone_10 : decode cX11_isKindOrNone 10 = .ok (.ifCond .eq 7, 3) := eX11_isKindOrNone_0.2.2.2.2.2.2.1
theorem dX11_isKindOrNone_13 : decode cX11_isKindOrNone 13 = .ok (.iconst 1, 1) := eX11_isKindOrNone_0.2.2.2.2.2.2.2.1
theorem eX11_isKindOrNone_14 : decode cX11_isKindOrNone 14 = .ok (.goto 4, 3) ∧ decode cX11_isKindOrNone 17 = .ok (.iconst 0, 1) ∧ decode cX11_isKindOrNone 18 = .ok (.ireturn, 1) ∧ True := dkl_ok (c := cX11_isKindOrNone) [(.goto 4, 3), (.iconst 0, 1), (.ireturn, 1)] 14 (by decide +kernel)
theorem dX11_isKindOrNone_14 : decode cX11_isKindOrNone 14 = .ok (.goto 4, 3) := eX11_isKindOrNone_14.1
theorem dX11_isKindOrNone_17 : decode cX11_isKindOrNone 17 = .ok (.iconst 0, 1) := eX11_isKindOrNone_14.2.1
theorem dX11_isKindOrNone_18 : decode cX11_isKindOrNone 18 = .ok (.ireturn, 1) := eX11_isKindOrNone_14.2.2.1
theorem eX11_doubterStatus_0 : decode cX11_doubterStatus 0 = .ok (.aload_n 0, 1) ∧ decode cX11_doubterStatus 1 = .ok (.iload_n 1, 1) ∧ decode cX11_doubterStatus 2 = .ok (.invokevirtual 219, 3) ∧ decode cX11_doubterStatus 5 = .ok (.ifCond .ne 5, 3) ∧ decode cX11_doubterStatus 8 = .ok (.iconst 2, 1) ∧ decode cX11_doubterStatus 9 = .ok (.ireturn, 1) ∧ decode cX11_doubterStatus 10 = .ok (.aload_n 0, 1) ∧ decode cX11_doubterStatus 11 = .ok (.getfield 42, 3) ∧ True := dkl_ok (c := cX11_doubterStatus) [(.aload_n 0, 1), (.iload_n 1, 1), (.invokevirtual 219, 3), (.ifCond .ne 5, 3), (.iconst 2, 1), (.ireturn, 1), (.aload_n 0, 1), (.getfield 42, 3)] 0 (by decide +kernel)
theorem dX11_doubterStatus_0 : decode cX11_doubterStatus 0 = .ok (.aload_n 0, 1) := eX11_doubterStatus_0.1
theorem dX11_doubterStatus_1 : decode cX11_doubterStatus 1 = .ok (.iload_n 1, 1) := eX11_doubterStatus_0.2.1
theorem dX11_doubterStatus_2 : decode cX11_doubterStatus 2 = .ok (.invokevirtual 219, 3) := eX11_doubterStatus_0.2.2.1
theorem dX11_doubterStatus_5 : decode cX11_doubterStatus 5 = .ok (.ifCond .ne 5, 3) := eX11_doubterStatus_0.2.2.2.1
theorem dX11_doubterStatus_8 : decode cX11_doubterStatus 8 = .ok (.iconst 2, 1) := eX11_doubterStatus_0.2.2.2.2.1
theorem dX11_doubterStatus_9 : decode cX11_doubterStatus 9 = .ok (.ireturn, 1) := eX11_doubterStatus_0.2.2.2.2.2.1
theorem dX11_doubterStatus_10 : decode cX11_doubterStatus 10 = .ok (.aload_n 0, 1) := eX11_doubterStatus_0.2.2.2.2.2.2.1
theorem dX11_doubterStatus_11 : decode cX11_doubterStatus 11 = .ok (.getfield 42, 3) := eX11_doubterStatus_0.2.2.2.2.2.2.2.1
theorem eX11_doubterStatus_14 : decode cX11_doubterStatus 14 = .ok (.getfield 210, 3) ∧ decode cX11_doubterStatus 17 = .ok (.ifCond .ne 6, 3) ∧ decode cX11_doubterStatus 20 = .ok (.bipush 8, 2) ∧ decode cX11_doubterStatus 22 = .ok (.ireturn, 1) ∧ decode cX11_doubterStatus 23 = .ok (.iload_n 1, 1) ∧ decode cX11_doubterStatus 24 = .ok (.aload_n 0, 1) ∧ decode cX11_doubterStatus 25 = .ok (.getfield 42, 3) ∧ decode cX11_doubterStatus 28 = .ok (.getfield 198, 3) ∧ True := dkl_ok (c := cX11_doubterStatus) [(.getfield 210, 3), (.ifCond .ne 6, 3), (.bipush 8, 2), (.ireturn, 1), (.iload_n 1, 1), (.aload_n 0, 1), (.getfield 42, 3), (.getfield 198, 3)] 14 (by decide +kernel)
theorem dX11_doubterStatus_14 : decode cX11_doubterStatus 14 = .ok (.getfield 210, 3) := eX11_doubterStatus_14.1
theorem dX11_doubterStatus_17 : decode cX11_doubterStatus 17 = .ok (.ifCond .ne 6, 3) := eX11_doubterStatus_14.2.1
theorem dX11_doubterStatus_20 : decode cX11_doubterStatus 20 = .ok (.bipush 8, 2) := eX11_doubterStatus_14.2.2.1
theorem dX11_doubterStatus_22 : decode cX11_doubterStatus 22 = .ok (.ireturn, 1) := eX11_doubterStatus_14.2.2.2.1
theorem dX11_doubterStatus_23 : decode cX11_doubterStatus 23 = .ok (.iload_n 1, 1) := eX11_doubterStatus_14.2.2.2.2.1
theorem dX11_doubterStatus_24 : decode cX11_doubterStatus 24 = .ok (.aload_n 0, 1) := eX11_doubterStatus_14.2.2.2.2.2.1
theorem dX11_doubterStatus_25 : decode cX11_doubterStatus 25 = .ok (.getfield 42, 3) := eX11_doubterStatus_14.2.2.2.2.2.2.1
theorem dX11_doubterStatus_28 : decode cX11_doubterStatus 28 = .ok (.getfield 198, 3) := eX11_doubterStatus_14.2.2.2.2.2.2.2.1
theorem eX11_doubterStatus_31 : decode cX11_doubterStatus 31 = .ok (.if_icmp .ne 7, 3) ∧ decode cX11_doubterStatus 34 = .ok (.iconst 5, 1) ∧ decode cX11_doubterStatus 35 = .ok (.goto 4, 3) ∧ decode cX11_doubterStatus 38 = .ok (.iconst 0, 1) ∧ decode cX11_doubterStatus 39 = .ok (.ireturn, 1) ∧ True := dkl_ok (c := cX11_doubterStatus) [(.if_icmp .ne 7, 3), (.iconst 5, 1), (.goto 4, 3), (.iconst 0, 1), (.ireturn, 1)] 31 (by decide +kernel)
theorem dX11_doubterStatus_31 : decode cX11_doubterStatus 31 = .ok (.if_icmp .ne 7, 3) := eX11_doubterStatus_31.1
theorem dX11_doubterStatus_34 : decode cX11_doubterStatus 34 = .ok (.iconst 5, 1) := eX11_doubterStatus_31.2.1
theorem dX11_doubterStatus_35 : decode cX11_doubterStatus 35 = .ok (.goto 4, 3) := eX11_doubterStatus_31.2.2.1
theorem dX11_doubterStatus_38 : decode cX11_doubterStatus 38 = .ok (.iconst 0, 1) := eX11_doubterStatus_31.2.2.2.1
theorem dX11_doubterStatus_39 : decode cX11_doubterStatus 39 = .ok (.ireturn, 1) := eX11_doubterStatus_31.2.2.2.2.1
theorem eX12_init_0 : decode cX12_init 0 = .ok (.aload_n 0, 1) ∧ decode cX12_init 1 = .ok (.invokespecial 1, 3) ∧ decode cX12_init 4 = .ok (.aload_n 0, 1) ∧ decode cX12_init 5 = .ok (.lconst 1, 1) ∧ decode cX12_init 6 = .ok (.putfield 7, 3) ∧ decode cX12_init 9 = .ok (.aload_n 0, 1) ∧ decode cX12_init 10 = .ok (.iconst 4, 1) ∧ True := dkl_ok (c := cX12_init) [(.aload_n 0, 1), (.invokespecial 1, 3), (.aload_n 0, 1), (.lconst 1, 1), (.putfield 7, 3), (.aload_n 0, 1), (.iconst 4, 1)] 0 (by decide +kernel)
theorem dX12_init_0 : decode cX12_init 0 = .ok (.aload_n 0, 1) := eX12_init_0.1
theorem dX12_init_1 : decode cX12_init 1 = .ok (.invokespecial 1, 3) := eX12_init_0.2.1
theorem dX12_init_4 : decode cX12_init 4 = .ok (.aload_n 0, 1) := eX12_init_0.2.2.1
theorem dX12_init_5 : decode cX12_init 5 = .ok (.lconst 1, 1) := eX12_init_0.2.2.2.1
theorem dX12_init_6 : decode cX12_init 6 = .ok (.putfield 7, 3) := eX12_init_0.2.2.2.2.1
theorem dX12_init_9 : decode cX12_init 9 = .ok (.aload_n 0, 1) := eX12_init_0.2.2.2.2.2.1
theorem dX12_init_10 : decode cX12_init 10 = .ok (.iconst 4, 1) := eX12_init_0.2.2.2.2.2.2.1
theorem dX12_init_11 : decode cX12_init 11 = .ok (.newarray .int, 2) := d_of (by decide +kernel)
theorem eX12_init_13 : decode cX12_init 13 = .ok (.putfield 13, 3) ∧ decode cX12_init 16 = .ok (.aload_n 0, 1) ∧ decode cX12_init 17 = .ok (.iconst 4, 1) ∧ True := dkl_ok (c := cX12_init) [(.putfield 13, 3), (.aload_n 0, 1), (.iconst 4, 1)] 13 (by decide +kernel)
theorem dX12_init_13 : decode cX12_init 13 = .ok (.putfield 13, 3) := eX12_init_13.1
theorem dX12_init_16 : decode cX12_init 16 = .ok (.aload_n 0, 1) := eX12_init_13.2.1
theorem dX12_init_17 : decode cX12_init 17 = .ok (.iconst 4, 1) := eX12_init_13.2.2.1
theorem dX12_init_18 : decode cX12_init 18 = .ok (.newarray .int, 2) := d_of (by decide +kernel)
theorem eX12_init_20 : decode cX12_init 20 = .ok (.putfield 17, 3) ∧ decode cX12_init 23 = .ok (.aload_n 0, 1) ∧ decode cX12_init 24 = .ok (.sipush 240, 3) ∧ True := dkl_ok (c := cX12_init) [(.putfield 17, 3), (.aload_n 0, 1), (.sipush 240, 3)] 20 (by decide +kernel)
theorem dX12_init_20 : decode cX12_init 20 = .ok (.putfield 17, 3) := eX12_init_20.1
theorem dX12_init_23 : decode cX12_init 23 = .ok (.aload_n 0, 1) := eX12_init_20.2.1
theorem dX12_init_24 : decode cX12_init 24 = .ok (.sipush 240, 3) := eX12_init_20.2.2.1
theorem dX12_init_27 : decode cX12_init 27 = .ok (.newarray .long, 2) := d_of (by decide +kernel)
theorem eX12_init_29 : decode cX12_init 29 = .ok (.putfield 20, 3) ∧ decode cX12_init 32 = .ok (.aload_n 0, 1) ∧ decode cX12_init 33 = .ok (.sipush 900, 3) ∧ True := dkl_ok (c := cX12_init) [(.putfield 20, 3), (.aload_n 0, 1), (.sipush 900, 3)] 29 (by decide +kernel)
theorem dX12_init_29 : decode cX12_init 29 = .ok (.putfield 20, 3) := eX12_init_29.1
theorem dX12_init_32 : decode cX12_init 32 = .ok (.aload_n 0, 1) := eX12_init_29.2.1
theorem dX12_init_33 : decode cX12_init 33 = .ok (.sipush 900, 3) := eX12_init_29.2.2.1
theorem dX12_init_36 : decode cX12_init 36 = .ok (.newarray .byte, 2) := d_of (by decide +kernel)
theorem eX12_init_38 : decode cX12_init 38 = .ok (.putfield 24, 3) ∧ decode cX12_init 41 = .ok (.aload_n 0, 1) ∧ decode cX12_init 42 = .ok (.iconst (-1), 1) ∧ decode cX12_init 43 = .ok (.putfield 28, 3) ∧ decode cX12_init 46 = .ok (.aload_n 0, 1) ∧ decode cX12_init 47 = .ok (.iconst (-1), 1) ∧ decode cX12_init 48 = .ok (.putfield 32, 3) ∧ decode cX12_init 51 = .ok (.aload_n 0, 1) ∧ True := dkl_ok (c := cX12_init) [(.putfield 24, 3), (.aload_n 0, 1), (.iconst (-1), 1), (.putfield 28, 3), (.aload_n 0, 1), (.iconst (-1), 1), (.putfield 32, 3), (.aload_n 0, 1)] 38 (by decide +kernel)
theorem dX12_init_38 : decode cX12_init 38 = .ok (.putfield 24, 3) := eX12_init_38.1
theorem dX12_init_41 : decode cX12_init 41 = .ok (.aload_n 0, 1) := eX12_init_38.2.1
theorem dX12_init_42 : decode cX12_init 42 = .ok (.iconst (-1), 1) := eX12_init_38.2.2.1
theorem dX12_init_43 : decode cX12_init 43 = .ok (.putfield 28, 3) := eX12_init_38.2.2.2.1
theorem dX12_init_46 : decode cX12_init 46 = .ok (.aload_n 0, 1) := eX12_init_38.2.2.2.2.1
theorem dX12_init_47 : decode cX12_init 47 = .ok (.iconst (-1), 1) := eX12_init_38.2.2.2.2.2.1
theorem dX12_init_48 : decode cX12_init 48 = .ok (.putfield 32, 3) := eX12_init_38.2.2.2.2.2.2.1
theorem dX12_init_51 : decode cX12_init 51 = .ok (.aload_n 0, 1) := eX12_init_38.2.2.2.2.2.2.2.1
theorem eX12_init_52 : decode cX12_init 52 = .ok (.sipush 4650, 3) ∧ True := dkl_ok (c := cX12_init) [(.sipush 4650, 3)] 52 (by decide +kernel)
theorem dX12_init_52 : decode cX12_init 52 = .ok (.sipush 4650, 3) := eX12_init_52.1
theorem dX12_init_55 : decode cX12_init 55 = .ok (.newarray .int, 2) := d_of (by decide +kernel)
theorem eX12_init_57 : decode cX12_init 57 = .ok (.putfield 35, 3) ∧ decode cX12_init 60 = .ok (.aload_n 0, 1) ∧ decode cX12_init 61 = .ok (.sipush 654, 3) ∧ True := dkl_ok (c := cX12_init) [(.putfield 35, 3), (.aload_n 0, 1), (.sipush 654, 3)] 57 (by decide +kernel)
theorem dX12_init_57 : decode cX12_init 57 = .ok (.putfield 35, 3) := eX12_init_57.1
theorem dX12_init_60 : decode cX12_init 60 = .ok (.aload_n 0, 1) := eX12_init_57.2.1
theorem dX12_init_61 : decode cX12_init 61 = .ok (.sipush 654, 3) := eX12_init_57.2.2.1
theorem dX12_init_64 : decode cX12_init 64 = .ok (.newarray .int, 2) := d_of (by decide +kernel)
theorem eX12_init_66 : decode cX12_init 66 = .ok (.putfield 38, 3) ∧ decode cX12_init 69 = .ok (.aload_n 0, 1) ∧ decode cX12_init 70 = .ok (.bipush 60, 2) ∧ True := dkl_ok (c := cX12_init) [(.putfield 38, 3), (.aload_n 0, 1), (.bipush 60, 2)] 66 (by decide +kernel)
theorem dX12_init_66 : decode cX12_init 66 = .ok (.putfield 38, 3) := eX12_init_66.1
theorem dX12_init_69 : decode cX12_init 69 = .ok (.aload_n 0, 1) := eX12_init_66.2.1
theorem dX12_init_70 : decode cX12_init 70 = .ok (.bipush 60, 2) := eX12_init_66.2.2.1
theorem dX12_init_72 : decode cX12_init 72 = .ok (.newarray .int, 2) := d_of (by decide +kernel)
theorem eX12_init_74 : decode cX12_init 74 = .ok (.putfield 41, 3) ∧ decode cX12_init 77 = .ok (.aload_n 0, 1) ∧ decode cX12_init 78 = .ok (.bipush 30, 2) ∧ True := dkl_ok (c := cX12_init) [(.putfield 41, 3), (.aload_n 0, 1), (.bipush 30, 2)] 74 (by decide +kernel)
theorem dX12_init_74 : decode cX12_init 74 = .ok (.putfield 41, 3) := eX12_init_74.1
theorem dX12_init_77 : decode cX12_init 77 = .ok (.aload_n 0, 1) := eX12_init_74.2.1
theorem dX12_init_78 : decode cX12_init 78 = .ok (.bipush 30, 2) := eX12_init_74.2.2.1
theorem dX12_init_80 : decode cX12_init 80 = .ok (.newarray .long, 2) := d_of (by decide +kernel)
theorem eX12_init_82 : decode cX12_init 82 = .ok (.putfield 44, 3) ∧ decode cX12_init 85 = .ok (.aload_n 0, 1) ∧ decode cX12_init 86 = .ok (.bipush 10, 2) ∧ True := dkl_ok (c := cX12_init) [(.putfield 44, 3), (.aload_n 0, 1), (.bipush 10, 2)] 82 (by decide +kernel)
theorem dX12_init_82 : decode cX12_init 82 = .ok (.putfield 44, 3) := eX12_init_82.1
theorem dX12_init_85 : decode cX12_init 85 = .ok (.aload_n 0, 1) := eX12_init_82.2.1
theorem dX12_init_86 : decode cX12_init 86 = .ok (.bipush 10, 2) := eX12_init_82.2.2.1
theorem dX12_init_88 : decode cX12_init 88 = .ok (.newarray .int, 2) := d_of (by decide +kernel)
theorem eX12_init_90 : decode cX12_init 90 = .ok (.putfield 47, 3) ∧ decode cX12_init 93 = .ok (.aload_n 0, 1) ∧ decode cX12_init 94 = .ok (.iconst 4, 1) ∧ True := dkl_ok (c := cX12_init) [(.putfield 47, 3), (.aload_n 0, 1), (.iconst 4, 1)] 90 (by decide +kernel)
theorem dX12_init_90 : decode cX12_init 90 = .ok (.putfield 47, 3) := eX12_init_90.1
theorem dX12_init_93 : decode cX12_init 93 = .ok (.aload_n 0, 1) := eX12_init_90.2.1
theorem dX12_init_94 : decode cX12_init 94 = .ok (.iconst 4, 1) := eX12_init_90.2.2.1
theorem dX12_init_95 : decode cX12_init 95 = .ok (.newarray .int, 2) := d_of (by decide +kernel)
theorem eX12_init_97 : decode cX12_init 97 = .ok (.putfield 50, 3) ∧ decode cX12_init 100 = .ok (.aload_n 0, 1) ∧ decode cX12_init 101 = .ok (.bipush 10, 2) ∧ True := dkl_ok (c := cX12_init) [(.putfield 50, 3), (.aload_n 0, 1), (.bipush 10, 2)] 97 (by decide +kernel)
theorem dX12_init_97 : decode cX12_init 97 = .ok (.putfield 50, 3) := eX12_init_97.1
theorem dX12_init_100 : decode cX12_init 100 = .ok (.aload_n 0, 1) := eX12_init_97.2.1
theorem dX12_init_101 : decode cX12_init 101 = .ok (.bipush 10, 2) := eX12_init_97.2.2.1
theorem dX12_init_103 : decode cX12_init 103 = .ok (.newarray .int, 2) := d_of (by decide +kernel)
theorem eX12_init_105 : decode cX12_init 105 = .ok (.putfield 53, 3) ∧ decode cX12_init 108 = .ok (.aload_n 0, 1) ∧ decode cX12_init 109 = .ok (.iconst 5, 1) ∧ True := dkl_ok (c := cX12_init) [(.putfield 53, 3), (.aload_n 0, 1), (.iconst 5, 1)] 105 (by decide +kernel)
theorem dX12_init_105 : decode cX12_init 105 = .ok (.putfield 53, 3) := eX12_init_105.1
theorem dX12_init_108 : decode cX12_init 108 = .ok (.aload_n 0, 1) := eX12_init_105.2.1
theorem dX12_init_109 : decode cX12_init 109 = .ok (.iconst 5, 1) := eX12_init_105.2.2.1
theorem dX12_init_110 : decode cX12_init 110 = .ok (.newarray .int, 2) := d_of (by decide +kernel)
theorem eX12_init_112 : decode cX12_init 112 = .ok (.putfield 56, 3) ∧ decode cX12_init 115 = .ok (.iconst 0, 1) ∧ decode cX12_init 116 = .ok (.istore_n 1, 1) ∧ decode cX12_init 117 = .ok (.iload_n 1, 1) ∧ decode cX12_init 118 = .ok (.iconst 4, 1) ∧ decode cX12_init 119 = .ok (.if_icmp .ge 16, 3) ∧ decode cX12_init 122 = .ok (.aload_n 0, 1) ∧ decode cX12_init 123 = .ok (.getfield 17, 3) ∧ True := dkl_ok (c := cX12_init) [(.putfield 56, 3), (.iconst 0, 1), (.istore_n 1, 1), (.iload_n 1, 1), (.iconst 4, 1), (.if_icmp .ge 16, 3), (.aload_n 0, 1), (.getfield 17, 3)] 112 (by decide +kernel)
theorem dX12_init_112 : decode cX12_init 112 = .ok (.putfield 56, 3) := eX12_init_112.1
theorem dX12_init_115 : decode cX12_init 115 = .ok (.iconst 0, 1) := eX12_init_112.2.1
theorem dX12_init_116 : decode cX12_init 116 = .ok (.istore_n 1, 1) := eX12_init_112.2.2.1
theorem dX12_init_117 : decode cX12_init 117 = .ok (.iload_n 1, 1) := eX12_init_112.2.2.2.1
theorem dX12_init_118 : decode cX12_init 118 = .ok (.iconst 4, 1) := eX12_init_112.2.2.2.2.1
theorem dX12_init_119 : decode cX12_init 119 = .ok (.if_icmp .ge 16, 3) := eX12_init_112.2.2.2.2.2.1
theorem dX12_init_122 : decode cX12_init 122 = .ok (.aload_n 0, 1) := eX12_init_112.2.2.2.2.2.2.1
theorem dX12_init_123 : decode cX12_init 123 = .ok (.getfield 17, 3) := eX12_init_112.2.2.2.2.2.2.2.1
theorem eX12_init_126 : decode cX12_init 126 = .ok (.iload_n 1, 1) ∧ decode cX12_init 127 = .ok (.iconst (-1), 1) ∧ decode cX12_init 128 = .ok (.iastore, 1) ∧ decode cX12_init 129 = .ok (.iinc 1 1, 3) ∧ decode cX12_init 132 = .ok (.goto (-15), 3) ∧ decode cX12_init 135 = .ok (.aload_n 0, 1) ∧ decode cX12_init 136 = .ok (.getfield 35, 3) ∧ decode cX12_init 139 = .ok (.iconst 0, 1) ∧ True := dkl_ok (c := cX12_init) [(.iload_n 1, 1), (.iconst (-1), 1), (.iastore, 1), (.iinc 1 1, 3), (.goto (-15), 3), (.aload_n 0, 1), (.getfield 35, 3), (.iconst 0, 1)] 126 (by decide +kernel)
theorem dX12_init_126 : decode cX12_init 126 = .ok (.iload_n 1, 1) := eX12_init_126.1
theorem dX12_init_127 : decode cX12_init 127 = .ok (.iconst (-1), 1) := eX12_init_126.2.1
theorem dX12_init_128 : decode cX12_init 128 = .ok (.iastore, 1) := eX12_init_126.2.2.1
theorem dX12_init_129 : decode cX12_init 129 = .ok (.iinc 1 1, 3) := eX12_init_126.2.2.2.1
theorem dX12_init_132 : decode cX12_init 132 = .ok (.goto (-15), 3) := eX12_init_126.2.2.2.2.1
theorem dX12_init_135 : decode cX12_init 135 = .ok (.aload_n 0, 1) := eX12_init_126.2.2.2.2.2.1
theorem dX12_init_136 : decode cX12_init 136 = .ok (.getfield 35, 3) := eX12_init_126.2.2.2.2.2.2.1
theorem dX12_init_139 : decode cX12_init 139 = .ok (.iconst 0, 1) := eX12_init_126.2.2.2.2.2.2.2.1
theorem eX12_init_140 : decode cX12_init 140 = .ok (.iconst 2, 1) ∧ decode cX12_init 141 = .ok (.iastore, 1) ∧ decode cX12_init 142 = .ok (.aload_n 0, 1) ∧ decode cX12_init 143 = .ok (.getfield 35, 3) ∧ decode cX12_init 146 = .ok (.iconst 1, 1) ∧ decode cX12_init 147 = .ok (.iconst 1, 1) ∧ decode cX12_init 148 = .ok (.iastore, 1) ∧ decode cX12_init 149 = .ok (.aload_n 0, 1) ∧ True := dkl_ok (c := cX12_init) [(.iconst 2, 1), (.iastore, 1), (.aload_n 0, 1), (.getfield 35, 3), (.iconst 1, 1), (.iconst 1, 1), (.iastore, 1), (.aload_n 0, 1)] 140 (by decide +kernel)
theorem dX12_init_140 : decode cX12_init 140 = .ok (.iconst 2, 1) := eX12_init_140.1
theorem dX12_init_141 : decode cX12_init 141 = .ok (.iastore, 1) := eX12_init_140.2.1
theorem dX12_init_142 : decode cX12_init 142 = .ok (.aload_n 0, 1) := eX12_init_140.2.2.1
theorem dX12_init_143 : decode cX12_init 143 = .ok (.getfield 35, 3) := eX12_init_140.2.2.2.1
theorem dX12_init_146 : decode cX12_init 146 = .ok (.iconst 1, 1) := eX12_init_140.2.2.2.2.1
theorem dX12_init_147 : decode cX12_init 147 = .ok (.iconst 1, 1) := eX12_init_140.2.2.2.2.2.1
theorem dX12_init_148 : decode cX12_init 148 = .ok (.iastore, 1) := eX12_init_140.2.2.2.2.2.2.1
theorem dX12_init_149 : decode cX12_init 149 = .ok (.aload_n 0, 1) := eX12_init_140.2.2.2.2.2.2.2.1
theorem eX12_init_150 : decode cX12_init 150 = .ok (.getfield 35, 3) ∧ decode cX12_init 153 = .ok (.iconst 4, 1) ∧ decode cX12_init 154 = .ok (.iconst 4, 1) ∧ decode cX12_init 155 = .ok (.iastore, 1) ∧ decode cX12_init 156 = .ok (.aload_n 0, 1) ∧ decode cX12_init 157 = .ok (.getfield 35, 3) ∧ decode cX12_init 160 = .ok (.bipush 8, 2) ∧ decode cX12_init 162 = .ok (.iconst (-1), 1) ∧ True := dkl_ok (c := cX12_init) [(.getfield 35, 3), (.iconst 4, 1), (.iconst 4, 1), (.iastore, 1), (.aload_n 0, 1), (.getfield 35, 3), (.bipush 8, 2), (.iconst (-1), 1)] 150 (by decide +kernel)
theorem dX12_init_150 : decode cX12_init 150 = .ok (.getfield 35, 3) := eX12_init_150.1
theorem dX12_init_153 : decode cX12_init 153 = .ok (.iconst 4, 1) := eX12_init_150.2.1
theorem dX12_init_154 : decode cX12_init 154 = .ok (.iconst 4, 1) := eX12_init_150.2.2.1
theorem dX12_init_155 : decode cX12_init 155 = .ok (.iastore, 1) := eX12_init_150.2.2.2.1
theorem dX12_init_156 : decode cX12_init 156 = .ok (.aload_n 0, 1) := eX12_init_150.2.2.2.2.1
theorem dX12_init_157 : decode cX12_init 157 = .ok (.getfield 35, 3) := eX12_init_150.2.2.2.2.2.1
theorem dX12_init_160 : decode cX12_init 160 = .ok (.bipush 8, 2) := eX12_init_150.2.2.2.2.2.2.1
theorem dX12_init_162 : decode cX12_init 162 = .ok (.iconst (-1), 1) := eX12_init_150.2.2.2.2.2.2.2.1
theorem eX12_init_163 : decode cX12_init 163 = .ok (.iastore, 1) ∧ decode cX12_init 164 = .ok (.aload_n 0, 1) ∧ decode cX12_init 165 = .ok (.getfield 35, 3) ∧ decode cX12_init 168 = .ok (.bipush 6, 2) ∧ decode cX12_init 170 = .ok (.iconst (-1), 1) ∧ decode cX12_init 171 = .ok (.iastore, 1) ∧ decode cX12_init 172 = .ok (.return_, 1) ∧ True := dkl_ok (c := cX12_init) [(.iastore, 1), (.aload_n 0, 1), (.getfield 35, 3), (.bipush 6, 2), (.iconst (-1), 1), (.iastore, 1), (.return_, 1)] 163 (by decide +kernel)
theorem dX12_init_163 : decode cX12_init 163 = .ok (.iastore, 1) := eX12_init_163.1
theorem dX12_init_164 : decode cX12_init 164 = .ok (.aload_n 0, 1) := eX12_init_163.2.1
theorem dX12_init_165 : decode cX12_init 165 = .ok (.getfield 35, 3) := eX12_init_163.2.2.1
theorem dX12_init_168 : decode cX12_init 168 = .ok (.bipush 6, 2) := eX12_init_163.2.2.2.1
theorem dX12_init_170 : decode cX12_init 170 = .ok (.iconst (-1), 1) := eX12_init_163.2.2.2.2.1
theorem dX12_init_171 : decode cX12_init 171 = .ok (.iastore, 1) := eX12_init_163.2.2.2.2.2.1
theorem dX12_init_172 : decode cX12_init 172 = .ok (.return_, 1) := eX12_init_163.2.2.2.2.2.2.1
theorem eX12_status_0 : decode cX12_status 0 = .ok (.aload_n 0, 1) ∧ decode cX12_status 1 = .ok (.iconst 0, 1) ∧ decode cX12_status 2 = .ok (.putfield 59, 3) ∧ decode cX12_status 5 = .ok (.aload_n 0, 1) ∧ decode cX12_status 6 = .ok (.getfield 62, 3) ∧ decode cX12_status 9 = .ok (.ireturn, 1) ∧ True := dkl_ok (c := cX12_status) [(.aload_n 0, 1), (.iconst 0, 1), (.putfield 59, 3), (.aload_n 0, 1), (.getfield 62, 3), (.ireturn, 1)] 0 (by decide +kernel)
theorem dX12_status_0 : decode cX12_status 0 = .ok (.aload_n 0, 1) := eX12_status_0.1
theorem dX12_status_1 : decode cX12_status 1 = .ok (.iconst 0, 1) := eX12_status_0.2.1
theorem dX12_status_2 : decode cX12_status 2 = .ok (.putfield 59, 3) := eX12_status_0.2.2.1
theorem dX12_status_5 : decode cX12_status 5 = .ok (.aload_n 0, 1) := eX12_status_0.2.2.2.1
theorem dX12_status_6 : decode cX12_status 6 = .ok (.getfield 62, 3) := eX12_status_0.2.2.2.2.1
theorem dX12_status_9 : decode cX12_status 9 = .ok (.ireturn, 1) := eX12_status_0.2.2.2.2.2.1
theorem eX12_top_0 : decode cX12_top 0 = .ok (.aload_n 0, 1) ∧ decode cX12_top 1 = .ok (.iconst 0, 1) ∧ decode cX12_top 2 = .ok (.putfield 59, 3) ∧ decode cX12_top 5 = .ok (.aload_n 0, 1) ∧ decode cX12_top 6 = .ok (.getfield 65, 3) ∧ decode cX12_top 9 = .ok (.lreturn, 1) ∧ True := dkl_ok (c := cX12_top) [(.aload_n 0, 1), (.iconst 0, 1), (.putfield 59, 3), (.aload_n 0, 1), (.getfield 65, 3), (.lreturn, 1)] 0 (by decide +kernel)
theorem dX12_top_0 : decode cX12_top 0 = .ok (.aload_n 0, 1) := eX12_top_0.1
theorem dX12_top_1 : decode cX12_top 1 = .ok (.iconst 0, 1) := eX12_top_0.2.1
theorem dX12_top_2 : decode cX12_top 2 = .ok (.putfield 59, 3) := eX12_top_0.2.2.1
theorem dX12_top_5 : decode cX12_top 5 = .ok (.aload_n 0, 1) := eX12_top_0.2.2.2.1
theorem dX12_top_6 : decode cX12_top 6 = .ok (.getfield 65, 3) := eX12_top_0.2.2.2.2.1
theorem dX12_top_9 : decode cX12_top 9 = .ok (.lreturn, 1) := eX12_top_0.2.2.2.2.2.1
theorem eX12_bottom_0 : decode cX12_bottom 0 = .ok (.aload_n 0, 1) ∧ decode cX12_bottom 1 = .ok (.iconst 0, 1) ∧ decode cX12_bottom 2 = .ok (.putfield 59, 3) ∧ decode cX12_bottom 5 = .ok (.aload_n 0, 1) ∧ decode cX12_bottom 6 = .ok (.getfield 7, 3) ∧ decode cX12_bottom 9 = .ok (.lreturn, 1) ∧ True := dkl_ok (c := cX12_bottom) [(.aload_n 0, 1), (.iconst 0, 1), (.putfield 59, 3), (.aload_n 0, 1), (.getfield 7, 3), (.lreturn, 1)] 0 (by decide +kernel)
theorem dX12_bottom_0 : decode cX12_bottom 0 = .ok (.aload_n 0, 1) := eX12_bottom_0.1
theorem dX12_bottom_1 : decode cX12_bottom 1 = .ok (.iconst 0, 1) := eX12_bottom_0.2.1
theorem dX12_bottom_2 : decode cX12_bottom 2 = .ok (.putfield 59, 3) := eX12_bottom_0.2.2.1
theorem dX12_bottom_5 : decode cX12_bottom 5 = .ok (.aload_n 0, 1) := eX12_bottom_0.2.2.2.1
theorem dX12_bottom_6 : decode cX12_bottom 6 = .ok (.getfield 7, 3) := eX12_bottom_0.2.2.2.2.1
theorem dX12_bottom_9 : decode cX12_bottom 9 = .ok (.lreturn, 1) := eX12_bottom_0.2.2.2.2.2.1
theorem eX12_refuse_0 : decode cX12_refuse 0 = .ok (.aload_n 0, 1) ∧ decode cX12_refuse 1 = .ok (.iload_n 1, 1) ∧ decode cX12_refuse 2 = .ok (.putfield 62, 3) ∧ decode cX12_refuse 5 = .ok (.iconst (-1), 1) ∧ decode cX12_refuse 6 = .ok (.ireturn, 1) ∧ True := dkl_ok (c := cX12_refuse) [(.aload_n 0, 1), (.iload_n 1, 1), (.putfield 62, 3), (.iconst (-1), 1), (.ireturn, 1)] 0 (by decide +kernel)
theorem dX12_refuse_0 : decode cX12_refuse 0 = .ok (.aload_n 0, 1) := eX12_refuse_0.1
theorem dX12_refuse_1 : decode cX12_refuse 1 = .ok (.iload_n 1, 1) := eX12_refuse_0.2.1
theorem dX12_refuse_2 : decode cX12_refuse 2 = .ok (.putfield 62, 3) := eX12_refuse_0.2.2.1
theorem dX12_refuse_5 : decode cX12_refuse 5 = .ok (.iconst (-1), 1) := eX12_refuse_0.2.2.2.1
theorem dX12_refuse_6 : decode cX12_refuse 6 = .ok (.ireturn, 1) := eX12_refuse_0.2.2.2.2.1
theorem eX12_no_0 : decode cX12_no 0 = .ok (.aload_n 0, 1) ∧ decode cX12_no 1 = .ok (.iload_n 1, 1) ∧ decode cX12_no 2 = .ok (.putfield 62, 3) ∧ decode cX12_no 5 = .ok (.iconst 0, 1) ∧ decode cX12_no 6 = .ok (.ireturn, 1) ∧ True := dkl_ok (c := cX12_no) [(.aload_n 0, 1), (.iload_n 1, 1), (.putfield 62, 3), (.iconst 0, 1), (.ireturn, 1)] 0 (by decide +kernel)
theorem dX12_no_0 : decode cX12_no 0 = .ok (.aload_n 0, 1) := eX12_no_0.1
theorem dX12_no_1 : decode cX12_no 1 = .ok (.iload_n 1, 1) := eX12_no_0.2.1
theorem dX12_no_2 : decode cX12_no 2 = .ok (.putfield 62, 3) := eX12_no_0.2.2.1
theorem dX12_no_5 : decode cX12_no 5 = .ok (.iconst 0, 1) := eX12_no_0.2.2.2.1
theorem dX12_no_6 : decode cX12_no 6 = .ok (.ireturn, 1) := eX12_no_0.2.2.2.2.1
theorem eX12_isIn_0 : decode cX12_isIn 0 = .ok (.lload_n 0, 1) ∧ decode cX12_isIn 1 = .ok (.lload_n 2, 1) ∧ decode cX12_isIn 2 = .ok (.lcmp, 1) ∧ decode cX12_isIn 3 = .ok (.ifCond .lt 14, 3) ∧ decode cX12_isIn 6 = .ok (.lload_n 0, 1) ∧ decode cX12_isIn 7 = .ok (.lload 4, 2) ∧ decode cX12_isIn 9 = .ok (.lcmp, 1) ∧ decode cX12_isIn 10 = .ok (.ifCond .gt 7, 3) ∧ True := dkl_ok (c := cX12_isIn) [(.lload_n 0, 1), (.lload_n 2, 1), (.lcmp, 1), (.ifCond .lt 14, 3), (.lload_n 0, 1), (.lload 4, 2), (.lcmp, 1), (.ifCond .gt 7, 3)] 0 (by decide +kernel)
theorem dX12_isIn_0 : decode cX12_isIn 0 = .ok (.lload_n 0, 1) := eX12_isIn_0.1
theorem dX12_isIn_1 : decode cX12_isIn 1 = .ok (.lload_n 2, 1) := eX12_isIn_0.2.1
theorem dX12_isIn_2 : decode cX12_isIn 2 = .ok (.lcmp, 1) := eX12_isIn_0.2.2.1
theorem dX12_isIn_3 : decode cX12_isIn 3 = .ok (.ifCond .lt 14, 3) := eX12_isIn_0.2.2.2.1
theorem dX12_isIn_6 : decode cX12_isIn 6 = .ok (.lload_n 0, 1) := eX12_isIn_0.2.2.2.2.1
theorem dX12_isIn_7 : decode cX12_isIn 7 = .ok (.lload 4, 2) := eX12_isIn_0.2.2.2.2.2.1
theorem dX12_isIn_9 : decode cX12_isIn 9 = .ok (.lcmp, 1) := eX12_isIn_0.2.2.2.2.2.2.1
theorem dX12_isIn_10 : decode cX12_isIn 10 = .ok (.ifCond .gt 7, 3) := eX12_isIn_0.2.2.2.2.2.2.2.1
theorem eX12_isIn_13 : decode cX12_isIn 13 = .ok (.iconst 1, 1) ∧ decode cX12_isIn 14 = .ok (.goto 4, 3) ∧ decode cX12_isIn 17 = .ok (.iconst 0, 1) ∧ decode cX12_isIn 18 = .ok (.ireturn, 1) ∧ True := dkl_ok (c := cX12_isIn) [(.iconst 1, 1), (.goto 4, 3), (.iconst 0, 1), (.ireturn, 1)] 13 (by decide +kernel)
theorem dX12_isIn_13 : decode cX12_isIn 13 = .ok (.iconst 1, 1) := eX12_isIn_13.1
theorem dX12_isIn_14 : decode cX12_isIn 14 = .ok (.goto 4, 3) := eX12_isIn_13.2.1
theorem dX12_isIn_17 : decode cX12_isIn 17 = .ok (.iconst 0, 1) := eX12_isIn_13.2.2.1
theorem dX12_isIn_18 : decode cX12_isIn 18 = .ok (.ireturn, 1) := eX12_isIn_13.2.2.2.1
theorem eX12_fraction_0 : decode cX12_fraction 0 = .ok (.lload_n 1, 1) ∧ decode cX12_fraction 1 = .ok (.invokestatic 68, 3) ∧ decode cX12_fraction 4 = .ok (.lstore 5, 2) ∧ decode cX12_fraction 6 = .ok (.lload_n 3, 1) ∧ decode cX12_fraction 7 = .ok (.lstore 7, 2) ∧ decode cX12_fraction 9 = .ok (.lload 7, 2) ∧ decode cX12_fraction 11 = .ok (.lconst 0, 1) ∧ decode cX12_fraction 12 = .ok (.lcmp, 1) ∧ True := dkl_ok (c := cX12_fraction) [(.lload_n 1, 1), (.invokestatic 68, 3), (.lstore 5, 2), (.lload_n 3, 1), (.lstore 7, 2), (.lload 7, 2), (.lconst 0, 1), (.lcmp, 1)] 0 (by decide +kernel)
theorem dX12_fraction_0 : decode cX12_fraction 0 = .ok (.lload_n 1, 1) := eX12_fraction_0.1
theorem dX12_fraction_1 : decode cX12_fraction 1 = .ok (.invokestatic 68, 3) := eX12_fraction_0.2.1
theorem dX12_fraction_4 : decode cX12_fraction 4 = .ok (.lstore 5, 2) := eX12_fraction_0.2.2.1
theorem dX12_fraction_6 : decode cX12_fraction 6 = .ok (.lload_n 3, 1) := eX12_fraction_0.2.2.2.1
theorem dX12_fraction_7 : decode cX12_fraction 7 = .ok (.lstore 7, 2) := eX12_fraction_0.2.2.2.2.1
theorem dX12_fraction_9 : decode cX12_fraction 9 = .ok (.lload 7, 2) := eX12_fraction_0.2.2.2.2.2.1
theorem dX12_fraction_11 : decode cX12_fraction 11 = .ok (.lconst 0, 1) := eX12_fraction_0.2.2.2.2.2.2.1
theorem dX12_fraction_12 : decode cX12_fraction 12 = .ok (.lcmp, 1) := eX12_fraction_0.2.2.2.2.2.2.2.1
theorem eX12_fraction_13 : decode cX12_fraction 13 = .ok (.ifCond .eq 21, 3) ∧ decode cX12_fraction 16 = .ok (.lload 5, 2) ∧ decode cX12_fraction 18 = .ok (.lload 7, 2) ∧ decode cX12_fraction 20 = .ok (.lrem, 1) ∧ decode cX12_fraction 21 = .ok (.lstore 9, 2) ∧ decode cX12_fraction 23 = .ok (.lload 7, 2) ∧ decode cX12_fraction 25 = .ok (.lstore 5, 2) ∧ decode cX12_fraction 27 = .ok (.lload 9, 2) ∧ True := dkl_ok (c := cX12_fraction) [(.ifCond .eq 21, 3), (.lload 5, 2), (.lload 7, 2), (.lrem, 1), (.lstore 9, 2), (.lload 7, 2), (.lstore 5, 2), (.lload 9, 2)] 13 (by decide +kernel)
theorem dX12_fraction_13 : decode cX12_fraction 13 = .ok (.ifCond .eq 21, 3) := eX12_fraction_13.1
theorem dX12_fraction_16 : decode cX12_fraction 16 = .ok (.lload 5, 2) := eX12_fraction_13.2.1
theorem dX12_fraction_18 : decode cX12_fraction 18 = .ok (.lload 7, 2) := eX12_fraction_13.2.2.1
theorem dX12_fraction_20 : decode cX12_fraction 20 = .ok (.lrem, 1) := eX12_fraction_13.2.2.2.1
theorem dX12_fraction_21 : decode cX12_fraction 21 = .ok (.lstore 9, 2) := eX12_fraction_13.2.2.2.2.1
theorem dX12_fraction_23 : decode cX12_fraction 23 = .ok (.lload 7, 2) := eX12_fraction_13.2.2.2.2.2.1
theorem dX12_fraction_25 : decode cX12_fraction 25 = .ok (.lstore 5, 2) := eX12_fraction_13.2.2.2.2.2.2.1
theorem dX12_fraction_27 : decode cX12_fraction 27 = .ok (.lload 9, 2) := eX12_fraction_13.2.2.2.2.2.2.2.1
theorem eX12_fraction_29 : decode cX12_fraction 29 = .ok (.lstore 7, 2) ∧ decode cX12_fraction 31 = .ok (.goto (-22), 3) ∧ decode cX12_fraction 34 = .ok (.aload_n 0, 1) ∧ decode cX12_fraction 35 = .ok (.lload_n 1, 1) ∧ decode cX12_fraction 36 = .ok (.lload 5, 2) ∧ decode cX12_fraction 38 = .ok (.ldiv, 1) ∧ decode cX12_fraction 39 = .ok (.putfield 65, 3) ∧ decode cX12_fraction 42 = .ok (.aload_n 0, 1) ∧ True := dkl_ok (c := cX12_fraction) [(.lstore 7, 2), (.goto (-22), 3), (.aload_n 0, 1), (.lload_n 1, 1), (.lload 5, 2), (.ldiv, 1), (.putfield 65, 3), (.aload_n 0, 1)] 29 (by decide +kernel)
theorem dX12_fraction_29 : decode cX12_fraction 29 = .ok (.lstore 7, 2) := eX12_fraction_29.1
theorem dX12_fraction_31 : decode cX12_fraction 31 = .ok (.goto (-22), 3) := eX12_fraction_29.2.1
theorem dX12_fraction_34 : decode cX12_fraction 34 = .ok (.aload_n 0, 1) := eX12_fraction_29.2.2.1
theorem dX12_fraction_35 : decode cX12_fraction 35 = .ok (.lload_n 1, 1) := eX12_fraction_29.2.2.2.1
theorem dX12_fraction_36 : decode cX12_fraction 36 = .ok (.lload 5, 2) := eX12_fraction_29.2.2.2.2.1
theorem dX12_fraction_38 : decode cX12_fraction 38 = .ok (.ldiv, 1) := eX12_fraction_29.2.2.2.2.2.1
theorem dX12_fraction_39 : decode cX12_fraction 39 = .ok (.putfield 65, 3) := eX12_fraction_29.2.2.2.2.2.2.1
theorem dX12_fraction_42 : decode cX12_fraction 42 = .ok (.aload_n 0, 1) := eX12_fraction_29.2.2.2.2.2.2.2.1
theorem eX12_fraction_43 : decode cX12_fraction 43 = .ok (.lload_n 3, 1) ∧ decode cX12_fraction 44 = .ok (.lload 5, 2) ∧ decode cX12_fraction 46 = .ok (.ldiv, 1) ∧ decode cX12_fraction 47 = .ok (.putfield 7, 3) ∧ decode cX12_fraction 50 = .ok (.iconst 1, 1) ∧ decode cX12_fraction 51 = .ok (.ireturn, 1) ∧ True := dkl_ok (c := cX12_fraction) [(.lload_n 3, 1), (.lload 5, 2), (.ldiv, 1), (.putfield 7, 3), (.iconst 1, 1), (.ireturn, 1)] 43 (by decide +kernel)
theorem dX12_fraction_43 : decode cX12_fraction 43 = .ok (.lload_n 3, 1) := eX12_fraction_43.1
theorem dX12_fraction_44 : decode cX12_fraction 44 = .ok (.lload 5, 2) := eX12_fraction_43.2.1
theorem dX12_fraction_46 : decode cX12_fraction 46 = .ok (.ldiv, 1) := eX12_fraction_43.2.2.1
theorem dX12_fraction_47 : decode cX12_fraction 47 = .ok (.putfield 7, 3) := eX12_fraction_43.2.2.2.1
theorem dX12_fraction_50 : decode cX12_fraction 50 = .ok (.iconst 1, 1) := eX12_fraction_43.2.2.2.2.1
theorem dX12_fraction_51 : decode cX12_fraction 51 = .ok (.ireturn, 1) := eX12_fraction_43.2.2.2.2.2.1
theorem eX12_cut_0 : decode cX12_cut 0 = .ok (.iload_n 0, 1) ∧ decode cX12_cut 1 = .ok (.ifCond .ne 10, 3) ∧ decode cX12_cut 4 = .ok (.lload_n 1, 1) ∧ decode cX12_cut 5 = .ok (.l2i, 1) ∧ decode cX12_cut 6 = .ok (.i2b, 1) ∧ decode cX12_cut 7 = .ok (.i2l, 1) ∧ decode cX12_cut 8 = .ok (.goto 27, 3) ∧ decode cX12_cut 11 = .ok (.iload_n 0, 1) ∧ True := dkl_ok (c := cX12_cut) [(.iload_n 0, 1), (.ifCond .ne 10, 3), (.lload_n 1, 1), (.l2i, 1), (.i2b, 1), (.i2l, 1), (.goto 27, 3), (.iload_n 0, 1)] 0 (by decide +kernel)
theorem dX12_cut_0 : decode cX12_cut 0 = .ok (.iload_n 0, 1) := eX12_cut_0.1
theorem dX12_cut_1 : decode cX12_cut 1 = .ok (.ifCond .ne 10, 3) := eX12_cut_0.2.1
theorem dX12_cut_4 : decode cX12_cut 4 = .ok (.lload_n 1, 1) := eX12_cut_0.2.2.1
theorem dX12_cut_5 : decode cX12_cut 5 = .ok (.l2i, 1) := eX12_cut_0.2.2.2.1
theorem dX12_cut_6 : decode cX12_cut 6 = .ok (.i2b, 1) := eX12_cut_0.2.2.2.2.1
theorem dX12_cut_7 : decode cX12_cut 7 = .ok (.i2l, 1) := eX12_cut_0.2.2.2.2.2.1
theorem dX12_cut_8 : decode cX12_cut 8 = .ok (.goto 27, 3) := eX12_cut_0.2.2.2.2.2.2.1
theorem dX12_cut_11 : decode cX12_cut 11 = .ok (.iload_n 0, 1) := eX12_cut_0.2.2.2.2.2.2.2.1
theorem eX12_cut_12 : decode cX12_cut 12 = .ok (.iconst 1, 1) ∧ decode cX12_cut 13 = .ok (.if_icmp .ne 10, 3) ∧ decode cX12_cut 16 = .ok (.lload_n 1, 1) ∧ decode cX12_cut 17 = .ok (.l2i, 1) ∧ decode cX12_cut 18 = .ok (.i2s, 1) ∧ decode cX12_cut 19 = .ok (.i2l, 1) ∧ decode cX12_cut 20 = .ok (.goto 15, 3) ∧ decode cX12_cut 23 = .ok (.iload_n 0, 1) ∧ True := dkl_ok (c := cX12_cut) [(.iconst 1, 1), (.if_icmp .ne 10, 3), (.lload_n 1, 1), (.l2i, 1), (.i2s, 1), (.i2l, 1), (.goto 15, 3), (.iload_n 0, 1)] 12 (by decide +kernel)
theorem dX12_cut_12 : decode cX12_cut 12 = .ok (.iconst 1, 1) := eX12_cut_12.1
theorem dX12_cut_13 : decode cX12_cut 13 = .ok (.if_icmp .ne 10, 3) := eX12_cut_12.2.1
theorem dX12_cut_16 : decode cX12_cut 16 = .ok (.lload_n 1, 1) := eX12_cut_12.2.2.1
theorem dX12_cut_17 : decode cX12_cut 17 = .ok (.l2i, 1) := eX12_cut_12.2.2.2.1
theorem dX12_cut_18 : decode cX12_cut 18 = .ok (.i2s, 1) := eX12_cut_12.2.2.2.2.1
theorem dX12_cut_19 : decode cX12_cut 19 = .ok (.i2l, 1) := eX12_cut_12.2.2.2.2.2.1
theorem dX12_cut_20 : decode cX12_cut 20 = .ok (.goto 15, 3) := eX12_cut_12.2.2.2.2.2.2.1
theorem dX12_cut_23 : decode cX12_cut 23 = .ok (.iload_n 0, 1) := eX12_cut_12.2.2.2.2.2.2.2.1
theorem eX12_cut_24 : decode cX12_cut 24 = .ok (.iconst 2, 1) ∧ decode cX12_cut 25 = .ok (.if_icmp .ne 9, 3) ∧ decode cX12_cut 28 = .ok (.lload_n 1, 1) ∧ decode cX12_cut 29 = .ok (.l2i, 1) ∧ decode cX12_cut 30 = .ok (.i2l, 1) ∧ decode cX12_cut 31 = .ok (.goto 4, 3) ∧ decode cX12_cut 34 = .ok (.lload_n 1, 1) ∧ decode cX12_cut 35 = .ok (.lreturn, 1) ∧ True := dkl_ok (c := cX12_cut) [(.iconst 2, 1), (.if_icmp .ne 9, 3), (.lload_n 1, 1), (.l2i, 1), (.i2l, 1), (.goto 4, 3), (.lload_n 1, 1), (.lreturn, 1)] 24 (by decide +kernel)
theorem dX12_cut_24 : decode cX12_cut 24 = .ok (.iconst 2, 1) := eX12_cut_24.1
theorem dX12_cut_25 : decode cX12_cut 25 = .ok (.if_icmp .ne 9, 3) := eX12_cut_24.2.1
theorem dX12_cut_28 : decode cX12_cut 28 = .ok (.lload_n 1, 1) := eX12_cut_24.2.2.1
theorem dX12_cut_29 : decode cX12_cut 29 = .ok (.l2i, 1) := eX12_cut_24.2.2.2.1
theorem dX12_cut_30 : decode cX12_cut 30 = .ok (.i2l, 1) := eX12_cut_24.2.2.2.2.1
theorem dX12_cut_31 : decode cX12_cut 31 = .ok (.goto 4, 3) := eX12_cut_24.2.2.2.2.2.1
theorem dX12_cut_34 : decode cX12_cut 34 = .ok (.lload_n 1, 1) := eX12_cut_24.2.2.2.2.2.2.1
theorem dX12_cut_35 : decode cX12_cut 35 = .ok (.lreturn, 1) := eX12_cut_24.2.2.2.2.2.2.2.1
theorem eX12_tray_0 : decode cX12_tray 0 = .ok (.aload_n 0, 1) ∧ decode cX12_tray 1 = .ok (.iconst 0, 1) ∧ decode cX12_tray 2 = .ok (.putfield 59, 3) ∧ decode cX12_tray 5 = .ok (.aload_n 0, 1) ∧ decode cX12_tray 6 = .ok (.iconst 0, 1) ∧ decode cX12_tray 7 = .ok (.putfield 62, 3) ∧ decode cX12_tray 10 = .ok (.iload_n 1, 1) ∧ decode cX12_tray 11 = .ok (.ifCond .lt 17, 3) ∧ True := dkl_ok (c := cX12_tray) [(.aload_n 0, 1), (.iconst 0, 1), (.putfield 59, 3), (.aload_n 0, 1), (.iconst 0, 1), (.putfield 62, 3), (.iload_n 1, 1), (.ifCond .lt 17, 3)] 0 (by decide +kernel)
theorem dX12_tray_0 : decode cX12_tray 0 = .ok (.aload_n 0, 1) := eX12_tray_0.1
theorem dX12_tray_1 : decode cX12_tray 1 = .ok (.iconst 0, 1) := eX12_tray_0.2.1
theorem dX12_tray_2 : decode cX12_tray 2 = .ok (.putfield 59, 3) := eX12_tray_0.2.2.1
theorem dX12_tray_5 : decode cX12_tray 5 = .ok (.aload_n 0, 1) := eX12_tray_0.2.2.2.1
theorem dX12_tray_6 : decode cX12_tray 6 = .ok (.iconst 0, 1) := eX12_tray_0.2.2.2.2.1
theorem dX12_tray_7 : decode cX12_tray 7 = .ok (.putfield 62, 3) := eX12_tray_0.2.2.2.2.2.1
theorem dX12_tray_10 : decode cX12_tray 10 = .ok (.iload_n 1, 1) := eX12_tray_0.2.2.2.2.2.2.1
theorem dX12_tray_11 : decode cX12_tray 11 = .ok (.ifCond .lt 17, 3) := eX12_tray_0.2.2.2.2.2.2.2.1
theorem eX12_tray_14 : decode cX12_tray 14 = .ok (.iload_n 1, 1) ∧ decode cX12_tray 15 = .ok (.iconst 4, 1) ∧ decode cX12_tray 16 = .ok (.if_icmp .ge 12, 3) ∧ decode cX12_tray 19 = .ok (.iload_n 2, 1) ∧ decode cX12_tray 20 = .ok (.ifCond .lt 8, 3) ∧ decode cX12_tray 23 = .ok (.iload_n 2, 1) ∧ decode cX12_tray 24 = .ok (.iconst 3, 1) ∧ decode cX12_tray 25 = .ok (.if_icmp .le 9, 3) ∧ True := dkl_ok (c := cX12_tray) [(.iload_n 1, 1), (.iconst 4, 1), (.if_icmp .ge 12, 3), (.iload_n 2, 1), (.ifCond .lt 8, 3), (.iload_n 2, 1), (.iconst 3, 1), (.if_icmp .le 9, 3)] 14 (by decide +kernel)
theorem dX12_tray_14 : decode cX12_tray 14 = .ok (.iload_n 1, 1) := eX12_tray_14.1
theorem dX12_tray_15 : decode cX12_tray 15 = .ok (.iconst 4, 1) := eX12_tray_14.2.1
theorem dX12_tray_16 : decode cX12_tray 16 = .ok (.if_icmp .ge 12, 3) := eX12_tray_14.2.2.1
theorem dX12_tray_19 : decode cX12_tray 19 = .ok (.iload_n 2, 1) := eX12_tray_14.2.2.2.1
theorem dX12_tray_20 : decode cX12_tray 20 = .ok (.ifCond .lt 8, 3) := eX12_tray_14.2.2.2.2.1
theorem dX12_tray_23 : decode cX12_tray 23 = .ok (.iload_n 2, 1) := eX12_tray_14.2.2.2.2.2.1
theorem dX12_tray_24 : decode cX12_tray 24 = .ok (.iconst 3, 1) := eX12_tray_14.2.2.2.2.2.2.1
theorem dX12_tray_25 : decode cX12_tray 25 = .ok (.if_icmp .le 9, 3) := eX12_tray_14.2.2.2.2.2.2.2.1
theorem eX12_tray_28 : decode cX12_tray 28 = .ok (.aload_n 0, 1) ∧ decode cX12_tray 29 = .ok (.iconst 1, 1) ∧ decode cX12_tray 30 = .ok (.invokevirtual 74, 3) ∧ decode cX12_tray 33 = .ok (.ireturn, 1) ∧ decode cX12_tray 34 = .ok (.iload_n 3, 1) ∧ decode cX12_tray 35 = .ok (.bipush 60, 2) ∧ decode cX12_tray 37 = .ok (.if_icmp .le 9, 3) ∧ decode cX12_tray 40 = .ok (.aload_n 0, 1) ∧ True := dkl_ok (c := cX12_tray) [(.aload_n 0, 1), (.iconst 1, 1), (.invokevirtual 74, 3), (.ireturn, 1), (.iload_n 3, 1), (.bipush 60, 2), (.if_icmp .le 9, 3), (.aload_n 0, 1)] 28 (by decide +kernel)
theorem dX12_tray_28 : decode cX12_tray 28 = .ok (.aload_n 0, 1) := eX12_tray_28.1
theorem dX12_tray_29 : decode cX12_tray 29 = .ok (.iconst 1, 1) := eX12_tray_28.2.1
theorem dX12_tray_30 : decode cX12_tray 30 = .ok (.invokevirtual 74, 3) := eX12_tray_28.2.2.1
theorem dX12_tray_33 : decode cX12_tray 33 = .ok (.ireturn, 1) := eX12_tray_28.2.2.2.1
theorem dX12_tray_34 : decode cX12_tray 34 = .ok (.iload_n 3, 1) := eX12_tray_28.2.2.2.2.1
theorem dX12_tray_35 : decode cX12_tray 35 = .ok (.bipush 60, 2) := eX12_tray_28.2.2.2.2.2.1
theorem dX12_tray_37 : decode cX12_tray 37 = .ok (.if_icmp .le 9, 3) := eX12_tray_28.2.2.2.2.2.2.1
theorem dX12_tray_40 : decode cX12_tray 40 = .ok (.aload_n 0, 1) := eX12_tray_28.2.2.2.2.2.2.2.1
theorem eX12_tray_41 : decode cX12_tray 41 = .ok (.iconst 5, 1) ∧ decode cX12_tray 42 = .ok (.invokevirtual 74, 3) ∧ decode cX12_tray 45 = .ok (.ireturn, 1) ∧ decode cX12_tray 46 = .ok (.iload_n 3, 1) ∧ decode cX12_tray 47 = .ok (.ifCond .ge 10, 3) ∧ decode cX12_tray 50 = .ok (.aload_n 0, 1) ∧ decode cX12_tray 51 = .ok (.bipush 6, 2) ∧ decode cX12_tray 53 = .ok (.invokevirtual 74, 3) ∧ True := dkl_ok (c := cX12_tray) [(.iconst 5, 1), (.invokevirtual 74, 3), (.ireturn, 1), (.iload_n 3, 1), (.ifCond .ge 10, 3), (.aload_n 0, 1), (.bipush 6, 2), (.invokevirtual 74, 3)] 41 (by decide +kernel)
theorem dX12_tray_41 : decode cX12_tray 41 = .ok (.iconst 5, 1) := eX12_tray_41.1
theorem dX12_tray_42 : decode cX12_tray 42 = .ok (.invokevirtual 74, 3) := eX12_tray_41.2.1
theorem dX12_tray_45 : decode cX12_tray 45 = .ok (.ireturn, 1) := eX12_tray_41.2.2.1
theorem dX12_tray_46 : decode cX12_tray 46 = .ok (.iload_n 3, 1) := eX12_tray_41.2.2.2.1
theorem dX12_tray_47 : decode cX12_tray 47 = .ok (.ifCond .ge 10, 3) := eX12_tray_41.2.2.2.2.1
theorem dX12_tray_50 : decode cX12_tray 50 = .ok (.aload_n 0, 1) := eX12_tray_41.2.2.2.2.2.1
theorem dX12_tray_51 : decode cX12_tray 51 = .ok (.bipush 6, 2) := eX12_tray_41.2.2.2.2.2.2.1
theorem dX12_tray_53 : decode cX12_tray 53 = .ok (.invokevirtual 74, 3) := eX12_tray_41.2.2.2.2.2.2.2.1
theorem eX12_tray_56 : decode cX12_tray 56 = .ok (.ireturn, 1) ∧ decode cX12_tray 57 = .ok (.aload_n 0, 1) ∧ decode cX12_tray 58 = .ok (.getfield 13, 3) ∧ decode cX12_tray 61 = .ok (.iload_n 1, 1) ∧ decode cX12_tray 62 = .ok (.iload_n 2, 1) ∧ decode cX12_tray 63 = .ok (.iastore, 1) ∧ decode cX12_tray 64 = .ok (.aload_n 0, 1) ∧ decode cX12_tray 65 = .ok (.getfield 17, 3) ∧ True := dkl_ok (c := cX12_tray) [(.ireturn, 1), (.aload_n 0, 1), (.getfield 13, 3), (.iload_n 1, 1), (.iload_n 2, 1), (.iastore, 1), (.aload_n 0, 1), (.getfield 17, 3)] 56 (by decide +kernel)
theorem dX12_tray_56 : decode cX12_tray 56 = .ok (.ireturn, 1) := eX12_tray_56.1
theorem dX12_tray_57 : decode cX12_tray 57 = .ok (.aload_n 0, 1) := eX12_tray_56.2.1
theorem dX12_tray_58 : decode cX12_tray 58 = .ok (.getfield 13, 3) := eX12_tray_56.2.2.1
theorem dX12_tray_61 : decode cX12_tray 61 = .ok (.iload_n 1, 1) := eX12_tray_56.2.2.2.1
theorem dX12_tray_62 : decode cX12_tray 62 = .ok (.iload_n 2, 1) := eX12_tray_56.2.2.2.2.1
theorem dX12_tray_63 : decode cX12_tray 63 = .ok (.iastore, 1) := eX12_tray_56.2.2.2.2.2.1
theorem dX12_tray_64 : decode cX12_tray 64 = .ok (.aload_n 0, 1) := eX12_tray_56.2.2.2.2.2.2.1
theorem dX12_tray_65 : decode cX12_tray 65 = .ok (.getfield 17, 3) := eX12_tray_56.2.2.2.2.2.2.2.1
theorem eX12_tray_68 : decode cX12_tray 68 = .ok (.iload_n 1, 1) ∧ decode cX12_tray 69 = .ok (.iload_n 3, 1) ∧ decode cX12_tray 70 = .ok (.iastore, 1) ∧ decode cX12_tray 71 = .ok (.iconst 0, 1) ∧ decode cX12_tray 72 = .ok (.istore 4, 2) ∧ decode cX12_tray 74 = .ok (.iload 4, 2) ∧ decode cX12_tray 76 = .ok (.iload_n 3, 1) ∧ decode cX12_tray 77 = .ok (.if_icmp .ge 22, 3) ∧ True := dkl_ok (c := cX12_tray) [(.iload_n 1, 1), (.iload_n 3, 1), (.iastore, 1), (.iconst 0, 1), (.istore 4, 2), (.iload 4, 2), (.iload_n 3, 1), (.if_icmp .ge 22, 3)] 68 (by decide +kernel)
theorem dX12_tray_68 : decode cX12_tray 68 = .ok (.iload_n 1, 1) := eX12_tray_68.1
theorem dX12_tray_69 : decode cX12_tray 69 = .ok (.iload_n 3, 1) := eX12_tray_68.2.1
theorem dX12_tray_70 : decode cX12_tray 70 = .ok (.iastore, 1) := eX12_tray_68.2.2.1
theorem dX12_tray_71 : decode cX12_tray 71 = .ok (.iconst 0, 1) := eX12_tray_68.2.2.2.1
theorem dX12_tray_72 : decode cX12_tray 72 = .ok (.istore 4, 2) := eX12_tray_68.2.2.2.2.1
theorem dX12_tray_74 : decode cX12_tray 74 = .ok (.iload 4, 2) := eX12_tray_68.2.2.2.2.2.1
theorem dX12_tray_76 : decode cX12_tray 76 = .ok (.iload_n 3, 1) := eX12_tray_68.2.2.2.2.2.2.1
theorem dX12_tray_77 : decode cX12_tray 77 = .ok (.if_icmp .ge 22, 3) := eX12_tray_68.2.2.2.2.2.2.2.1
theorem eX12_tray_80 : decode cX12_tray 80 = .ok (.aload_n 0, 1) ∧ decode cX12_tray 81 = .ok (.getfield 20, 3) ∧ decode cX12_tray 84 = .ok (.bipush 60, 2) ∧ decode cX12_tray 86 = .ok (.iload_n 1, 1) ∧ decode cX12_tray 87 = .ok (.imul, 1) ∧ decode cX12_tray 88 = .ok (.iload 4, 2) ∧ decode cX12_tray 90 = .ok (.iadd, 1) ∧ decode cX12_tray 91 = .ok (.lconst 0, 1) ∧ True := dkl_ok (c := cX12_tray) [(.aload_n 0, 1), (.getfield 20, 3), (.bipush 60, 2), (.iload_n 1, 1), (.imul, 1), (.iload 4, 2), (.iadd, 1), (.lconst 0, 1)] 80 (by decide +kernel)
theorem dX12_tray_80 : decode cX12_tray 80 = .ok (.aload_n 0, 1) := eX12_tray_80.1
theorem dX12_tray_81 : decode cX12_tray 81 = .ok (.getfield 20, 3) := eX12_tray_80.2.1
theorem dX12_tray_84 : decode cX12_tray 84 = .ok (.bipush 60, 2) := eX12_tray_80.2.2.1
theorem dX12_tray_86 : decode cX12_tray 86 = .ok (.iload_n 1, 1) := eX12_tray_80.2.2.2.1
theorem dX12_tray_87 : decode cX12_tray 87 = .ok (.imul, 1) := eX12_tray_80.2.2.2.2.1
theorem dX12_tray_88 : decode cX12_tray 88 = .ok (.iload 4, 2) := eX12_tray_80.2.2.2.2.2.1
theorem dX12_tray_90 : decode cX12_tray 90 = .ok (.iadd, 1) := eX12_tray_80.2.2.2.2.2.2.1
theorem dX12_tray_91 : decode cX12_tray 91 = .ok (.lconst 0, 1) := eX12_tray_80.2.2.2.2.2.2.2.1
theorem eX12_tray_92 : decode cX12_tray 92 = .ok (.lastore, 1) ∧ decode cX12_tray 93 = .ok (.iinc 4 1, 3) ∧ decode cX12_tray 96 = .ok (.goto (-22), 3) ∧ decode cX12_tray 99 = .ok (.iconst 1, 1) ∧ decode cX12_tray 100 = .ok (.ireturn, 1) ∧ True := dkl_ok (c := cX12_tray) [(.lastore, 1), (.iinc 4 1, 3), (.goto (-22), 3), (.iconst 1, 1), (.ireturn, 1)] 92 (by decide +kernel)
theorem dX12_tray_92 : decode cX12_tray 92 = .ok (.lastore, 1) := eX12_tray_92.1
theorem dX12_tray_93 : decode cX12_tray 93 = .ok (.iinc 4 1, 3) := eX12_tray_92.2.1
theorem dX12_tray_96 : decode cX12_tray 96 = .ok (.goto (-22), 3) := eX12_tray_92.2.2.1
theorem dX12_tray_99 : decode cX12_tray 99 = .ok (.iconst 1, 1) := eX12_tray_92.2.2.2.1
theorem dX12_tray_100 : decode cX12_tray 100 = .ok (.ireturn, 1) := eX12_tray_92.2.2.2.2.1
theorem eX12_trayed_0 : decode cX12_trayed 0 = .ok (.iload_n 1, 1) ∧ decode cX12_trayed 1 = .ok (.ifCond .lt 8, 3) ∧ decode cX12_trayed 4 = .ok (.iload_n 1, 1) ∧ decode cX12_trayed 5 = .ok (.iconst 4, 1) ∧ decode cX12_trayed 6 = .ok (.if_icmp .lt 7, 3) ∧ decode cX12_trayed 9 = .ok (.iconst 1, 1) ∧ decode cX12_trayed 10 = .ok (.goto 17, 3) ∧ decode cX12_trayed 13 = .ok (.aload_n 0, 1) ∧ True := dkl_ok (c := cX12_trayed) [(.iload_n 1, 1), (.ifCond .lt 8, 3), (.iload_n 1, 1), (.iconst 4, 1), (.if_icmp .lt 7, 3), (.iconst 1, 1), (.goto 17, 3), (.aload_n 0, 1)] 0 (by decide +kernel)
theorem dX12_trayed_0 : decode cX12_trayed 0 = .ok (.iload_n 1, 1) := eX12_trayed_0.1
theorem dX12_trayed_1 : decode cX12_trayed 1 = .ok (.ifCond .lt 8, 3) := eX12_trayed_0.2.1
theorem dX12_trayed_4 : decode cX12_trayed 4 = .ok (.iload_n 1, 1) := eX12_trayed_0.2.2.1
theorem dX12_trayed_5 : decode cX12_trayed 5 = .ok (.iconst 4, 1) := eX12_trayed_0.2.2.2.1
theorem dX12_trayed_6 : decode cX12_trayed 6 = .ok (.if_icmp .lt 7, 3) := eX12_trayed_0.2.2.2.2.1
theorem dX12_trayed_9 : decode cX12_trayed 9 = .ok (.iconst 1, 1) := eX12_trayed_0.2.2.2.2.2.1
theorem dX12_trayed_10 : decode cX12_trayed 10 = .ok (.goto 17, 3) := eX12_trayed_0.2.2.2.2.2.2.1
theorem dX12_trayed_13 : decode cX12_trayed 13 = .ok (.aload_n 0, 1) := eX12_trayed_0.2.2.2.2.2.2.2.1
theorem eX12_trayed_14 : decode cX12_trayed 14 = .ok (.getfield 17, 3) ∧ decode cX12_trayed 17 = .ok (.iload_n 1, 1) ∧ decode cX12_trayed 18 = .ok (.iaload, 1) ∧ decode cX12_trayed 19 = .ok (.ifCond .ge 7, 3) ∧ decode cX12_trayed 22 = .ok (.iconst 3, 1) ∧ decode cX12_trayed 23 = .ok (.goto 4, 3) ∧ decode cX12_trayed 26 = .ok (.iconst 0, 1) ∧ decode cX12_trayed 27 = .ok (.ireturn, 1) ∧ True := dkl_ok (c := cX12_trayed) [(.getfield 17, 3), (.iload_n 1, 1), (.iaload, 1), (.ifCond .ge 7, 3), (.iconst 3, 1), (.goto 4, 3), (.iconst 0, 1), (.ireturn, 1)] 14 (by decide +kernel)
theorem dX12_trayed_14 : decode cX12_trayed 14 = .ok (.getfield 17, 3) := eX12_trayed_14.1
theorem dX12_trayed_17 : decode cX12_trayed 17 = .ok (.iload_n 1, 1) := eX12_trayed_14.2.1
theorem dX12_trayed_18 : decode cX12_trayed 18 = .ok (.iaload, 1) := eX12_trayed_14.2.2.1
theorem dX12_trayed_19 : decode cX12_trayed 19 = .ok (.ifCond .ge 7, 3) := eX12_trayed_14.2.2.2.1
theorem dX12_trayed_22 : decode cX12_trayed 22 = .ok (.iconst 3, 1) := eX12_trayed_14.2.2.2.2.1
theorem dX12_trayed_23 : decode cX12_trayed 23 = .ok (.goto 4, 3) := eX12_trayed_14.2.2.2.2.2.1
theorem dX12_trayed_26 : decode cX12_trayed 26 = .ok (.iconst 0, 1) := eX12_trayed_14.2.2.2.2.2.2.1
theorem dX12_trayed_27 : decode cX12_trayed 27 = .ok (.ireturn, 1) := eX12_trayed_14.2.2.2.2.2.2.2.1
theorem eX12_placed_0 : decode cX12_placed 0 = .ok (.aload_n 0, 1) ∧ decode cX12_placed 1 = .ok (.iload_n 1, 1) ∧ decode cX12_placed 2 = .ok (.invokevirtual 78, 3) ∧ decode cX12_placed 5 = .ok (.istore_n 3, 1) ∧ decode cX12_placed 6 = .ok (.iload_n 3, 1) ∧ decode cX12_placed 7 = .ok (.ifCond .le 7, 3) ∧ decode cX12_placed 10 = .ok (.iload_n 3, 1) ∧ decode cX12_placed 11 = .ok (.goto 22, 3) ∧ True := dkl_ok (c := cX12_placed) [(.aload_n 0, 1), (.iload_n 1, 1), (.invokevirtual 78, 3), (.istore_n 3, 1), (.iload_n 3, 1), (.ifCond .le 7, 3), (.iload_n 3, 1), (.goto 22, 3)] 0 (by decide +kernel)
theorem dX12_placed_0 : decode cX12_placed 0 = .ok (.aload_n 0, 1) := eX12_placed_0.1
theorem dX12_placed_1 : decode cX12_placed 1 = .ok (.iload_n 1, 1) := eX12_placed_0.2.1
theorem dX12_placed_2 : decode cX12_placed 2 = .ok (.invokevirtual 78, 3) := eX12_placed_0.2.2.1
theorem dX12_placed_5 : decode cX12_placed 5 = .ok (.istore_n 3, 1) := eX12_placed_0.2.2.2.1
theorem dX12_placed_6 : decode cX12_placed 6 = .ok (.iload_n 3, 1) := eX12_placed_0.2.2.2.2.1
theorem dX12_placed_7 : decode cX12_placed 7 = .ok (.ifCond .le 7, 3) := eX12_placed_0.2.2.2.2.2.1
theorem dX12_placed_10 : decode cX12_placed 10 = .ok (.iload_n 3, 1) := eX12_placed_0.2.2.2.2.2.2.1
theorem dX12_placed_11 : decode cX12_placed 11 = .ok (.goto 22, 3) := eX12_placed_0.2.2.2.2.2.2.2.1
theorem eX12_placed_14 : decode cX12_placed 14 = .ok (.iload_n 2, 1) ∧ decode cX12_placed 15 = .ok (.ifCond .lt 13, 3) ∧ decode cX12_placed 18 = .ok (.iload_n 2, 1) ∧ decode cX12_placed 19 = .ok (.aload_n 0, 1) ∧ decode cX12_placed 20 = .ok (.getfield 17, 3) ∧ decode cX12_placed 23 = .ok (.iload_n 1, 1) ∧ decode cX12_placed 24 = .ok (.iaload, 1) ∧ decode cX12_placed 25 = .ok (.if_icmp .lt 7, 3) ∧ True := dkl_ok (c := cX12_placed) [(.iload_n 2, 1), (.ifCond .lt 13, 3), (.iload_n 2, 1), (.aload_n 0, 1), (.getfield 17, 3), (.iload_n 1, 1), (.iaload, 1), (.if_icmp .lt 7, 3)] 14 (by decide +kernel)
theorem dX12_placed_14 : decode cX12_placed 14 = .ok (.iload_n 2, 1) := eX12_placed_14.1
theorem dX12_placed_15 : decode cX12_placed 15 = .ok (.ifCond .lt 13, 3) := eX12_placed_14.2.1
theorem dX12_placed_18 : decode cX12_placed 18 = .ok (.iload_n 2, 1) := eX12_placed_14.2.2.1
theorem dX12_placed_19 : decode cX12_placed 19 = .ok (.aload_n 0, 1) := eX12_placed_14.2.2.2.1
theorem dX12_placed_20 : decode cX12_placed 20 = .ok (.getfield 17, 3) := eX12_placed_14.2.2.2.2.1
theorem dX12_placed_23 : decode cX12_placed 23 = .ok (.iload_n 1, 1) := eX12_placed_14.2.2.2.2.2.1
theorem dX12_placed_24 : decode cX12_placed 24 = .ok (.iaload, 1) := eX12_placed_14.2.2.2.2.2.2.1
theorem dX12_placed_25 : decode cX12_placed 25 = .ok (.if_icmp .lt 7, 3) := eX12_placed_14.2.2.2.2.2.2.2.1
theorem eX12_placed_28 : decode cX12_placed 28 = .ok (.iconst 4, 1) ∧ decode cX12_placed 29 = .ok (.goto 4, 3) ∧ decode cX12_placed 32 = .ok (.iconst 0, 1) ∧ decode cX12_placed 33 = .ok (.ireturn, 1) ∧ True := dkl_ok (c := cX12_placed) [(.iconst 4, 1), (.goto 4, 3), (.iconst 0, 1), (.ireturn, 1)] 28 (by decide +kernel)
theorem dX12_placed_28 : decode cX12_placed 28 = .ok (.iconst 4, 1) := eX12_placed_28.1
theorem dX12_placed_29 : decode cX12_placed 29 = .ok (.goto 4, 3) := eX12_placed_28.2.1
theorem dX12_placed_32 : decode cX12_placed 32 = .ok (.iconst 0, 1) := eX12_placed_28.2.2.1
theorem dX12_placed_33 : decode cX12_placed 33 = .ok (.ireturn, 1) := eX12_placed_28.2.2.2.1
theorem eX12_write_0 : decode cX12_write 0 = .ok (.aload_n 0, 1) ∧ decode cX12_write 1 = .ok (.iconst 0, 1) ∧ decode cX12_write 2 = .ok (.putfield 59, 3) ∧ decode cX12_write 5 = .ok (.aload_n 0, 1) ∧ decode cX12_write 6 = .ok (.aload_n 0, 1) ∧ decode cX12_write 7 = .ok (.iload_n 1, 1) ∧ decode cX12_write 8 = .ok (.iload_n 2, 1) ∧ decode cX12_write 9 = .ok (.invokevirtual 82, 3) ∧ True := dkl_ok (c := cX12_write) [(.aload_n 0, 1), (.iconst 0, 1), (.putfield 59, 3), (.aload_n 0, 1), (.aload_n 0, 1), (.iload_n 1, 1), (.iload_n 2, 1), (.invokevirtual 82, 3)] 0 (by decide +kernel)
theorem dX12_write_0 : decode cX12_write 0 = .ok (.aload_n 0, 1) := eX12_write_0.1
theorem dX12_write_1 : decode cX12_write 1 = .ok (.iconst 0, 1) := eX12_write_0.2.1
theorem dX12_write_2 : decode cX12_write 2 = .ok (.putfield 59, 3) := eX12_write_0.2.2.1
theorem dX12_write_5 : decode cX12_write 5 = .ok (.aload_n 0, 1) := eX12_write_0.2.2.2.1
theorem dX12_write_6 : decode cX12_write 6 = .ok (.aload_n 0, 1) := eX12_write_0.2.2.2.2.1
theorem dX12_write_7 : decode cX12_write 7 = .ok (.iload_n 1, 1) := eX12_write_0.2.2.2.2.2.1
theorem dX12_write_8 : decode cX12_write 8 = .ok (.iload_n 2, 1) := eX12_write_0.2.2.2.2.2.2.1
theorem dX12_write_9 : decode cX12_write 9 = .ok (.invokevirtual 82, 3) := eX12_write_0.2.2.2.2.2.2.2.1
theorem eX12_write_12 : decode cX12_write 12 = .ok (.putfield 62, 3) ∧ decode cX12_write 15 = .ok (.aload_n 0, 1) ∧ decode cX12_write 16 = .ok (.getfield 62, 3) ∧ decode cX12_write 19 = .ok (.ifCond .le 5, 3) ∧ decode cX12_write 22 = .ok (.iconst 0, 1) ∧ decode cX12_write 23 = .ok (.ireturn, 1) ∧ decode cX12_write 24 = .ok (.aload_n 0, 1) ∧ decode cX12_write 25 = .ok (.getfield 20, 3) ∧ True := dkl_ok (c := cX12_write) [(.putfield 62, 3), (.aload_n 0, 1), (.getfield 62, 3), (.ifCond .le 5, 3), (.iconst 0, 1), (.ireturn, 1), (.aload_n 0, 1), (.getfield 20, 3)] 12 (by decide +kernel)
theorem dX12_write_12 : decode cX12_write 12 = .ok (.putfield 62, 3) := eX12_write_12.1
theorem dX12_write_15 : decode cX12_write 15 = .ok (.aload_n 0, 1) := eX12_write_12.2.1
theorem dX12_write_16 : decode cX12_write 16 = .ok (.getfield 62, 3) := eX12_write_12.2.2.1
theorem dX12_write_19 : decode cX12_write 19 = .ok (.ifCond .le 5, 3) := eX12_write_12.2.2.2.1
theorem dX12_write_22 : decode cX12_write 22 = .ok (.iconst 0, 1) := eX12_write_12.2.2.2.2.1
theorem dX12_write_23 : decode cX12_write 23 = .ok (.ireturn, 1) := eX12_write_12.2.2.2.2.2.1
theorem dX12_write_24 : decode cX12_write 24 = .ok (.aload_n 0, 1) := eX12_write_12.2.2.2.2.2.2.1
theorem dX12_write_25 : decode cX12_write 25 = .ok (.getfield 20, 3) := eX12_write_12.2.2.2.2.2.2.2.1
theorem eX12_write_28 : decode cX12_write 28 = .ok (.bipush 60, 2) ∧ decode cX12_write 30 = .ok (.iload_n 1, 1) ∧ decode cX12_write 31 = .ok (.imul, 1) ∧ decode cX12_write 32 = .ok (.iload_n 2, 1) ∧ decode cX12_write 33 = .ok (.iadd, 1) ∧ decode cX12_write 34 = .ok (.aload_n 0, 1) ∧ decode cX12_write 35 = .ok (.getfield 13, 3) ∧ decode cX12_write 38 = .ok (.iload_n 1, 1) ∧ True := dkl_ok (c := cX12_write) [(.bipush 60, 2), (.iload_n 1, 1), (.imul, 1), (.iload_n 2, 1), (.iadd, 1), (.aload_n 0, 1), (.getfield 13, 3), (.iload_n 1, 1)] 28 (by decide +kernel)
theorem dX12_write_28 : decode cX12_write 28 = .ok (.bipush 60, 2) := eX12_write_28.1
theorem dX12_write_30 : decode cX12_write 30 = .ok (.iload_n 1, 1) := eX12_write_28.2.1
theorem dX12_write_31 : decode cX12_write 31 = .ok (.imul, 1) := eX12_write_28.2.2.1
theorem dX12_write_32 : decode cX12_write 32 = .ok (.iload_n 2, 1) := eX12_write_28.2.2.2.1
theorem dX12_write_33 : decode cX12_write 33 = .ok (.iadd, 1) := eX12_write_28.2.2.2.2.1
theorem dX12_write_34 : decode cX12_write 34 = .ok (.aload_n 0, 1) := eX12_write_28.2.2.2.2.2.1
theorem dX12_write_35 : decode cX12_write 35 = .ok (.getfield 13, 3) := eX12_write_28.2.2.2.2.2.2.1
theorem dX12_write_38 : decode cX12_write 38 = .ok (.iload_n 1, 1) := eX12_write_28.2.2.2.2.2.2.2.1
theorem eX12_write_39 : decode cX12_write 39 = .ok (.iaload, 1) ∧ decode cX12_write 40 = .ok (.lload_n 3, 1) ∧ decode cX12_write 41 = .ok (.invokestatic 86, 3) ∧ decode cX12_write 44 = .ok (.lastore, 1) ∧ decode cX12_write 45 = .ok (.iconst 1, 1) ∧ decode cX12_write 46 = .ok (.ireturn, 1) ∧ True := dkl_ok (c := cX12_write) [(.iaload, 1), (.lload_n 3, 1), (.invokestatic 86, 3), (.lastore, 1), (.iconst 1, 1), (.ireturn, 1)] 39 (by decide +kernel)
theorem dX12_write_39 : decode cX12_write 39 = .ok (.iaload, 1) := eX12_write_39.1
theorem dX12_write_40 : decode cX12_write 40 = .ok (.lload_n 3, 1) := eX12_write_39.2.1
theorem dX12_write_41 : decode cX12_write 41 = .ok (.invokestatic 86, 3) := eX12_write_39.2.2.1
theorem dX12_write_44 : decode cX12_write 44 = .ok (.lastore, 1) := eX12_write_39.2.2.2.1
theorem dX12_write_45 : decode cX12_write 45 = .ok (.iconst 1, 1) := eX12_write_39.2.2.2.2.1
theorem dX12_write_46 : decode cX12_write 46 = .ok (.ireturn, 1) := eX12_write_39.2.2.2.2.2.1
theorem eX12_read_0 : decode cX12_read 0 = .ok (.aload_n 0, 1) ∧ decode cX12_read 1 = .ok (.iconst 0, 1) ∧ decode cX12_read 2 = .ok (.putfield 59, 3) ∧ decode cX12_read 5 = .ok (.aload_n 0, 1) ∧ decode cX12_read 6 = .ok (.aload_n 0, 1) ∧ decode cX12_read 7 = .ok (.iload_n 1, 1) ∧ decode cX12_read 8 = .ok (.iload_n 2, 1) ∧ decode cX12_read 9 = .ok (.invokevirtual 82, 3) ∧ True := dkl_ok (c := cX12_read) [(.aload_n 0, 1), (.iconst 0, 1), (.putfield 59, 3), (.aload_n 0, 1), (.aload_n 0, 1), (.iload_n 1, 1), (.iload_n 2, 1), (.invokevirtual 82, 3)] 0 (by decide +kernel)
theorem dX12_read_0 : decode cX12_read 0 = .ok (.aload_n 0, 1) := eX12_read_0.1
theorem dX12_read_1 : decode cX12_read 1 = .ok (.iconst 0, 1) := eX12_read_0.2.1
theorem dX12_read_2 : decode cX12_read 2 = .ok (.putfield 59, 3) := eX12_read_0.2.2.1
theorem dX12_read_5 : decode cX12_read 5 = .ok (.aload_n 0, 1) := eX12_read_0.2.2.2.1
theorem dX12_read_6 : decode cX12_read 6 = .ok (.aload_n 0, 1) := eX12_read_0.2.2.2.2.1
theorem dX12_read_7 : decode cX12_read 7 = .ok (.iload_n 1, 1) := eX12_read_0.2.2.2.2.2.1
theorem dX12_read_8 : decode cX12_read 8 = .ok (.iload_n 2, 1) := eX12_read_0.2.2.2.2.2.2.1
theorem dX12_read_9 : decode cX12_read 9 = .ok (.invokevirtual 82, 3) := eX12_read_0.2.2.2.2.2.2.2.1
theorem eX12_read_12 : decode cX12_read 12 = .ok (.putfield 62, 3) ∧ decode cX12_read 15 = .ok (.aload_n 0, 1) ∧ decode cX12_read 16 = .ok (.getfield 62, 3) ∧ decode cX12_read 19 = .ok (.ifCond .le 9, 3) ∧ decode cX12_read 22 = .ok (.ldc2_w 90, 3) ∧ decode cX12_read 25 = .ok (.goto 14, 3) ∧ decode cX12_read 28 = .ok (.aload_n 0, 1) ∧ decode cX12_read 29 = .ok (.getfield 20, 3) ∧ True := dkl_ok (c := cX12_read) [(.putfield 62, 3), (.aload_n 0, 1), (.getfield 62, 3), (.ifCond .le 9, 3), (.ldc2_w 90, 3), (.goto 14, 3), (.aload_n 0, 1), (.getfield 20, 3)] 12 (by decide +kernel)
theorem dX12_read_12 : decode cX12_read 12 = .ok (.putfield 62, 3) := eX12_read_12.1
theorem dX12_read_15 : decode cX12_read 15 = .ok (.aload_n 0, 1) := eX12_read_12.2.1
theorem dX12_read_16 : decode cX12_read 16 = .ok (.getfield 62, 3) := eX12_read_12.2.2.1
theorem dX12_read_19 : decode cX12_read 19 = .ok (.ifCond .le 9, 3) := eX12_read_12.2.2.2.1
theorem dX12_read_22 : decode cX12_read 22 = .ok (.ldc2_w 90, 3) := eX12_read_12.2.2.2.2.1
theorem dX12_read_25 : decode cX12_read 25 = .ok (.goto 14, 3) := eX12_read_12.2.2.2.2.2.1
theorem dX12_read_28 : decode cX12_read 28 = .ok (.aload_n 0, 1) := eX12_read_12.2.2.2.2.2.2.1
theorem dX12_read_29 : decode cX12_read 29 = .ok (.getfield 20, 3) := eX12_read_12.2.2.2.2.2.2.2.1
theorem eX12_read_32 : decode cX12_read 32 = .ok (.bipush 60, 2) ∧ decode cX12_read 34 = .ok (.iload_n 1, 1) ∧ decode cX12_read 35 = .ok (.imul, 1) ∧ decode cX12_read 36 = .ok (.iload_n 2, 1) ∧ decode cX12_read 37 = .ok (.iadd, 1) ∧ decode cX12_read 38 = .ok (.laload, 1) ∧ decode cX12_read 39 = .ok (.lreturn, 1) ∧ True := dkl_ok (c := cX12_read) [(.bipush 60, 2), (.iload_n 1, 1), (.imul, 1), (.iload_n 2, 1), (.iadd, 1), (.laload, 1), (.lreturn, 1)] 32 (by decide +kernel)
theorem dX12_read_32 : decode cX12_read 32 = .ok (.bipush 60, 2) := eX12_read_32.1
theorem dX12_read_34 : decode cX12_read 34 = .ok (.iload_n 1, 1) := eX12_read_32.2.1
theorem dX12_read_35 : decode cX12_read 35 = .ok (.imul, 1) := eX12_read_32.2.2.1
theorem dX12_read_36 : decode cX12_read 36 = .ok (.iload_n 2, 1) := eX12_read_32.2.2.2.1
theorem dX12_read_37 : decode cX12_read 37 = .ok (.iadd, 1) := eX12_read_32.2.2.2.2.1
theorem dX12_read_38 : decode cX12_read 38 = .ok (.laload, 1) := eX12_read_32.2.2.2.2.2.1
theorem dX12_read_39 : decode cX12_read 39 = .ok (.lreturn, 1) := eX12_read_32.2.2.2.2.2.2.1
theorem eX12_pour_0 : decode cX12_pour 0 = .ok (.aload_n 0, 1) ∧ decode cX12_pour 1 = .ok (.iconst 0, 1) ∧ decode cX12_pour 2 = .ok (.putfield 59, 3) ∧ decode cX12_pour 5 = .ok (.aload_n 0, 1) ∧ decode cX12_pour 6 = .ok (.iconst 0, 1) ∧ decode cX12_pour 7 = .ok (.putfield 62, 3) ∧ decode cX12_pour 10 = .ok (.iload_n 1, 1) ∧ decode cX12_pour 11 = .ok (.ifCond .lt 17, 3) ∧ True := dkl_ok (c := cX12_pour) [(.aload_n 0, 1), (.iconst 0, 1), (.putfield 59, 3), (.aload_n 0, 1), (.iconst 0, 1), (.putfield 62, 3), (.iload_n 1, 1), (.ifCond .lt 17, 3)] 0 (by decide +kernel)
theorem dX12_pour_0 : decode cX12_pour 0 = .ok (.aload_n 0, 1) := eX12_pour_0.1
theorem dX12_pour_1 : decode cX12_pour 1 = .ok (.iconst 0, 1) := eX12_pour_0.2.1
theorem dX12_pour_2 : decode cX12_pour 2 = .ok (.putfield 59, 3) := eX12_pour_0.2.2.1
theorem dX12_pour_5 : decode cX12_pour 5 = .ok (.aload_n 0, 1) := eX12_pour_0.2.2.2.1
theorem dX12_pour_6 : decode cX12_pour 6 = .ok (.iconst 0, 1) := eX12_pour_0.2.2.2.2.1
theorem dX12_pour_7 : decode cX12_pour 7 = .ok (.putfield 62, 3) := eX12_pour_0.2.2.2.2.2.1
theorem dX12_pour_10 : decode cX12_pour 10 = .ok (.iload_n 1, 1) := eX12_pour_0.2.2.2.2.2.2.1
theorem dX12_pour_11 : decode cX12_pour 11 = .ok (.ifCond .lt 17, 3) := eX12_pour_0.2.2.2.2.2.2.2.1
theorem eX12_pour_14 : decode cX12_pour 14 = .ok (.iload_n 1, 1) ∧ decode cX12_pour 15 = .ok (.iconst 4, 1) ∧ decode cX12_pour 16 = .ok (.if_icmp .ge 12, 3) ∧ decode cX12_pour 19 = .ok (.iload_n 3, 1) ∧ decode cX12_pour 20 = .ok (.ifCond .lt 8, 3) ∧ decode cX12_pour 23 = .ok (.iload_n 3, 1) ∧ decode cX12_pour 24 = .ok (.iconst 4, 1) ∧ decode cX12_pour 25 = .ok (.if_icmp .lt 9, 3) ∧ True := dkl_ok (c := cX12_pour) [(.iload_n 1, 1), (.iconst 4, 1), (.if_icmp .ge 12, 3), (.iload_n 3, 1), (.ifCond .lt 8, 3), (.iload_n 3, 1), (.iconst 4, 1), (.if_icmp .lt 9, 3)] 14 (by decide +kernel)
theorem dX12_pour_14 : decode cX12_pour 14 = .ok (.iload_n 1, 1) := eX12_pour_14.1
theorem dX12_pour_15 : decode cX12_pour 15 = .ok (.iconst 4, 1) := eX12_pour_14.2.1
theorem dX12_pour_16 : decode cX12_pour 16 = .ok (.if_icmp .ge 12, 3) := eX12_pour_14.2.2.1
theorem dX12_pour_19 : decode cX12_pour 19 = .ok (.iload_n 3, 1) := eX12_pour_14.2.2.2.1
theorem dX12_pour_20 : decode cX12_pour 20 = .ok (.ifCond .lt 8, 3) := eX12_pour_14.2.2.2.2.1
theorem dX12_pour_23 : decode cX12_pour 23 = .ok (.iload_n 3, 1) := eX12_pour_14.2.2.2.2.2.1
theorem dX12_pour_24 : decode cX12_pour 24 = .ok (.iconst 4, 1) := eX12_pour_14.2.2.2.2.2.2.1
theorem dX12_pour_25 : decode cX12_pour 25 = .ok (.if_icmp .lt 9, 3) := eX12_pour_14.2.2.2.2.2.2.2.1
theorem eX12_pour_28 : decode cX12_pour 28 = .ok (.aload_n 0, 1) ∧ decode cX12_pour 29 = .ok (.iconst 1, 1) ∧ decode cX12_pour 30 = .ok (.invokevirtual 74, 3) ∧ decode cX12_pour 33 = .ok (.ireturn, 1) ∧ decode cX12_pour 34 = .ok (.aload_n 0, 1) ∧ decode cX12_pour 35 = .ok (.getfield 17, 3) ∧ decode cX12_pour 38 = .ok (.iload_n 1, 1) ∧ decode cX12_pour 39 = .ok (.iaload, 1) ∧ True := dkl_ok (c := cX12_pour) [(.aload_n 0, 1), (.iconst 1, 1), (.invokevirtual 74, 3), (.ireturn, 1), (.aload_n 0, 1), (.getfield 17, 3), (.iload_n 1, 1), (.iaload, 1)] 28 (by decide +kernel)
theorem dX12_pour_28 : decode cX12_pour 28 = .ok (.aload_n 0, 1) := eX12_pour_28.1
theorem dX12_pour_29 : decode cX12_pour 29 = .ok (.iconst 1, 1) := eX12_pour_28.2.1
theorem dX12_pour_30 : decode cX12_pour 30 = .ok (.invokevirtual 74, 3) := eX12_pour_28.2.2.1
theorem dX12_pour_33 : decode cX12_pour 33 = .ok (.ireturn, 1) := eX12_pour_28.2.2.2.1
theorem dX12_pour_34 : decode cX12_pour 34 = .ok (.aload_n 0, 1) := eX12_pour_28.2.2.2.2.1
theorem dX12_pour_35 : decode cX12_pour 35 = .ok (.getfield 17, 3) := eX12_pour_28.2.2.2.2.2.1
theorem dX12_pour_38 : decode cX12_pour 38 = .ok (.iload_n 1, 1) := eX12_pour_28.2.2.2.2.2.2.1
theorem dX12_pour_39 : decode cX12_pour 39 = .ok (.iaload, 1) := eX12_pour_28.2.2.2.2.2.2.2.1
theorem eX12_pour_40 : decode cX12_pour 40 = .ok (.ifCond .lt 12, 3) ∧ decode cX12_pour 43 = .ok (.aload_n 0, 1) ∧ decode cX12_pour 44 = .ok (.getfield 17, 3) ∧ decode cX12_pour 47 = .ok (.iload_n 3, 1) ∧ decode cX12_pour 48 = .ok (.iaload, 1) ∧ decode cX12_pour 49 = .ok (.ifCond .ge 9, 3) ∧ decode cX12_pour 52 = .ok (.aload_n 0, 1) ∧ decode cX12_pour 53 = .ok (.iconst 3, 1) ∧ True := dkl_ok (c := cX12_pour) [(.ifCond .lt 12, 3), (.aload_n 0, 1), (.getfield 17, 3), (.iload_n 3, 1), (.iaload, 1), (.ifCond .ge 9, 3), (.aload_n 0, 1), (.iconst 3, 1)] 40 (by decide +kernel)
theorem dX12_pour_40 : decode cX12_pour 40 = .ok (.ifCond .lt 12, 3) := eX12_pour_40.1
theorem dX12_pour_43 : decode cX12_pour 43 = .ok (.aload_n 0, 1) := eX12_pour_40.2.1
theorem dX12_pour_44 : decode cX12_pour 44 = .ok (.getfield 17, 3) := eX12_pour_40.2.2.1
theorem dX12_pour_47 : decode cX12_pour 47 = .ok (.iload_n 3, 1) := eX12_pour_40.2.2.2.1
theorem dX12_pour_48 : decode cX12_pour 48 = .ok (.iaload, 1) := eX12_pour_40.2.2.2.2.1
theorem dX12_pour_49 : decode cX12_pour 49 = .ok (.ifCond .ge 9, 3) := eX12_pour_40.2.2.2.2.2.1
theorem dX12_pour_52 : decode cX12_pour 52 = .ok (.aload_n 0, 1) := eX12_pour_40.2.2.2.2.2.2.1
theorem dX12_pour_53 : decode cX12_pour 53 = .ok (.iconst 3, 1) := eX12_pour_40.2.2.2.2.2.2.2.1
theorem eX12_pour_54 : decode cX12_pour 54 = .ok (.invokevirtual 74, 3) ∧ decode cX12_pour 57 = .ok (.ireturn, 1) ∧ decode cX12_pour 58 = .ok (.aload_n 0, 1) ∧ decode cX12_pour 59 = .ok (.getfield 13, 3) ∧ decode cX12_pour 62 = .ok (.iload_n 1, 1) ∧ decode cX12_pour 63 = .ok (.iaload, 1) ∧ decode cX12_pour 64 = .ok (.aload_n 0, 1) ∧ decode cX12_pour 65 = .ok (.getfield 13, 3) ∧ True := dkl_ok (c := cX12_pour) [(.invokevirtual 74, 3), (.ireturn, 1), (.aload_n 0, 1), (.getfield 13, 3), (.iload_n 1, 1), (.iaload, 1), (.aload_n 0, 1), (.getfield 13, 3)] 54 (by decide +kernel)
theorem dX12_pour_54 : decode cX12_pour 54 = .ok (.invokevirtual 74, 3) := eX12_pour_54.1
theorem dX12_pour_57 : decode cX12_pour 57 = .ok (.ireturn, 1) := eX12_pour_54.2.1
theorem dX12_pour_58 : decode cX12_pour 58 = .ok (.aload_n 0, 1) := eX12_pour_54.2.2.1
theorem dX12_pour_59 : decode cX12_pour 59 = .ok (.getfield 13, 3) := eX12_pour_54.2.2.2.1
theorem dX12_pour_62 : decode cX12_pour 62 = .ok (.iload_n 1, 1) := eX12_pour_54.2.2.2.2.1
theorem dX12_pour_63 : decode cX12_pour 63 = .ok (.iaload, 1) := eX12_pour_54.2.2.2.2.2.1
theorem dX12_pour_64 : decode cX12_pour 64 = .ok (.aload_n 0, 1) := eX12_pour_54.2.2.2.2.2.2.1
theorem dX12_pour_65 : decode cX12_pour 65 = .ok (.getfield 13, 3) := eX12_pour_54.2.2.2.2.2.2.2.1
theorem eX12_pour_68 : decode cX12_pour 68 = .ok (.iload_n 3, 1) ∧ decode cX12_pour 69 = .ok (.iaload, 1) ∧ decode cX12_pour 70 = .ok (.if_icmp .eq 10, 3) ∧ decode cX12_pour 73 = .ok (.aload_n 0, 1) ∧ decode cX12_pour 74 = .ok (.bipush 11, 2) ∧ decode cX12_pour 76 = .ok (.invokevirtual 74, 3) ∧ decode cX12_pour 79 = .ok (.ireturn, 1) ∧ decode cX12_pour 80 = .ok (.iload 5, 2) ∧ True := dkl_ok (c := cX12_pour) [(.iload_n 3, 1), (.iaload, 1), (.if_icmp .eq 10, 3), (.aload_n 0, 1), (.bipush 11, 2), (.invokevirtual 74, 3), (.ireturn, 1), (.iload 5, 2)] 68 (by decide +kernel)
theorem dX12_pour_68 : decode cX12_pour 68 = .ok (.iload_n 3, 1) := eX12_pour_68.1
theorem dX12_pour_69 : decode cX12_pour 69 = .ok (.iaload, 1) := eX12_pour_68.2.1
theorem dX12_pour_70 : decode cX12_pour 70 = .ok (.if_icmp .eq 10, 3) := eX12_pour_68.2.2.1
theorem dX12_pour_73 : decode cX12_pour 73 = .ok (.aload_n 0, 1) := eX12_pour_68.2.2.2.1
theorem dX12_pour_74 : decode cX12_pour 74 = .ok (.bipush 11, 2) := eX12_pour_68.2.2.2.2.1
theorem dX12_pour_76 : decode cX12_pour 76 = .ok (.invokevirtual 74, 3) := eX12_pour_68.2.2.2.2.2.1
theorem dX12_pour_79 : decode cX12_pour 79 = .ok (.ireturn, 1) := eX12_pour_68.2.2.2.2.2.2.1
theorem dX12_pour_80 : decode cX12_pour 80 = .ok (.iload 5, 2) := eX12_pour_68.2.2.2.2.2.2.2.1
theorem eX12_pour_82 : decode cX12_pour 82 = .ok (.ifCond .ge 10, 3) ∧ decode cX12_pour 85 = .ok (.aload_n 0, 1) ∧ decode cX12_pour 86 = .ok (.bipush 6, 2) ∧ decode cX12_pour 88 = .ok (.invokevirtual 74, 3) ∧ decode cX12_pour 91 = .ok (.ireturn, 1) ∧ decode cX12_pour 92 = .ok (.iload_n 2, 1) ∧ decode cX12_pour 93 = .ok (.ifCond .lt 43, 3) ∧ decode cX12_pour 96 = .ok (.iload 4, 2) ∧ True := dkl_ok (c := cX12_pour) [(.ifCond .ge 10, 3), (.aload_n 0, 1), (.bipush 6, 2), (.invokevirtual 74, 3), (.ireturn, 1), (.iload_n 2, 1), (.ifCond .lt 43, 3), (.iload 4, 2)] 82 (by decide +kernel)
theorem dX12_pour_82 : decode cX12_pour 82 = .ok (.ifCond .ge 10, 3) := eX12_pour_82.1
theorem dX12_pour_85 : decode cX12_pour 85 = .ok (.aload_n 0, 1) := eX12_pour_82.2.1
theorem dX12_pour_86 : decode cX12_pour 86 = .ok (.bipush 6, 2) := eX12_pour_82.2.2.1
theorem dX12_pour_88 : decode cX12_pour 88 = .ok (.invokevirtual 74, 3) := eX12_pour_82.2.2.2.1
theorem dX12_pour_91 : decode cX12_pour 91 = .ok (.ireturn, 1) := eX12_pour_82.2.2.2.2.1
theorem dX12_pour_92 : decode cX12_pour 92 = .ok (.iload_n 2, 1) := eX12_pour_82.2.2.2.2.2.1
theorem dX12_pour_93 : decode cX12_pour 93 = .ok (.ifCond .lt 43, 3) := eX12_pour_82.2.2.2.2.2.2.1
theorem dX12_pour_96 : decode cX12_pour 96 = .ok (.iload 4, 2) := eX12_pour_82.2.2.2.2.2.2.2.1
theorem eX12_pour_98 : decode cX12_pour 98 = .ok (.ifCond .lt 38, 3) ∧ decode cX12_pour 101 = .ok (.iload_n 2, 1) ∧ decode cX12_pour 102 = .ok (.i2l, 1) ∧ decode cX12_pour 103 = .ok (.iload 5, 2) ∧ decode cX12_pour 105 = .ok (.i2l, 1) ∧ decode cX12_pour 106 = .ok (.ladd, 1) ∧ decode cX12_pour 107 = .ok (.aload_n 0, 1) ∧ decode cX12_pour 108 = .ok (.getfield 17, 3) ∧ True := dkl_ok (c := cX12_pour) [(.ifCond .lt 38, 3), (.iload_n 2, 1), (.i2l, 1), (.iload 5, 2), (.i2l, 1), (.ladd, 1), (.aload_n 0, 1), (.getfield 17, 3)] 98 (by decide +kernel)
theorem dX12_pour_98 : decode cX12_pour 98 = .ok (.ifCond .lt 38, 3) := eX12_pour_98.1
theorem dX12_pour_101 : decode cX12_pour 101 = .ok (.iload_n 2, 1) := eX12_pour_98.2.1
theorem dX12_pour_102 : decode cX12_pour 102 = .ok (.i2l, 1) := eX12_pour_98.2.2.1
theorem dX12_pour_103 : decode cX12_pour 103 = .ok (.iload 5, 2) := eX12_pour_98.2.2.2.1
theorem dX12_pour_105 : decode cX12_pour 105 = .ok (.i2l, 1) := eX12_pour_98.2.2.2.2.1
theorem dX12_pour_106 : decode cX12_pour 106 = .ok (.ladd, 1) := eX12_pour_98.2.2.2.2.2.1
theorem dX12_pour_107 : decode cX12_pour 107 = .ok (.aload_n 0, 1) := eX12_pour_98.2.2.2.2.2.2.1
theorem dX12_pour_108 : decode cX12_pour 108 = .ok (.getfield 17, 3) := eX12_pour_98.2.2.2.2.2.2.2.1
theorem eX12_pour_111 : decode cX12_pour 111 = .ok (.iload_n 1, 1) ∧ decode cX12_pour 112 = .ok (.iaload, 1) ∧ decode cX12_pour 113 = .ok (.i2l, 1) ∧ decode cX12_pour 114 = .ok (.lcmp, 1) ∧ decode cX12_pour 115 = .ok (.ifCond .gt 21, 3) ∧ decode cX12_pour 118 = .ok (.iload 4, 2) ∧ decode cX12_pour 120 = .ok (.i2l, 1) ∧ decode cX12_pour 121 = .ok (.iload 5, 2) ∧ True := dkl_ok (c := cX12_pour) [(.iload_n 1, 1), (.iaload, 1), (.i2l, 1), (.lcmp, 1), (.ifCond .gt 21, 3), (.iload 4, 2), (.i2l, 1), (.iload 5, 2)] 111 (by decide +kernel)
theorem dX12_pour_111 : decode cX12_pour 111 = .ok (.iload_n 1, 1) := eX12_pour_111.1
theorem dX12_pour_112 : decode cX12_pour 112 = .ok (.iaload, 1) := eX12_pour_111.2.1
theorem dX12_pour_113 : decode cX12_pour 113 = .ok (.i2l, 1) := eX12_pour_111.2.2.1
theorem dX12_pour_114 : decode cX12_pour 114 = .ok (.lcmp, 1) := eX12_pour_111.2.2.2.1
theorem dX12_pour_115 : decode cX12_pour 115 = .ok (.ifCond .gt 21, 3) := eX12_pour_111.2.2.2.2.1
theorem dX12_pour_118 : decode cX12_pour 118 = .ok (.iload 4, 2) := eX12_pour_111.2.2.2.2.2.1
theorem dX12_pour_120 : decode cX12_pour 120 = .ok (.i2l, 1) := eX12_pour_111.2.2.2.2.2.2.1
theorem dX12_pour_121 : decode cX12_pour 121 = .ok (.iload 5, 2) := eX12_pour_111.2.2.2.2.2.2.2.1
theorem eX12_pour_123 : decode cX12_pour 123 = .ok (.i2l, 1) ∧ decode cX12_pour 124 = .ok (.ladd, 1) ∧ decode cX12_pour 125 = .ok (.aload_n 0, 1) ∧ decode cX12_pour 126 = .ok (.getfield 17, 3) ∧ decode cX12_pour 129 = .ok (.iload_n 3, 1) ∧ decode cX12_pour 130 = .ok (.iaload, 1) ∧ decode cX12_pour 131 = .ok (.i2l, 1) ∧ decode cX12_pour 132 = .ok (.lcmp, 1) ∧ True := dkl_ok (c := cX12_pour) [(.i2l, 1), (.ladd, 1), (.aload_n 0, 1), (.getfield 17, 3), (.iload_n 3, 1), (.iaload, 1), (.i2l, 1), (.lcmp, 1)] 123 (by decide +kernel)
theorem dX12_pour_123 : decode cX12_pour 123 = .ok (.i2l, 1) := eX12_pour_123.1
theorem dX12_pour_124 : decode cX12_pour 124 = .ok (.ladd, 1) := eX12_pour_123.2.1
theorem dX12_pour_125 : decode cX12_pour 125 = .ok (.aload_n 0, 1) := eX12_pour_123.2.2.1
theorem dX12_pour_126 : decode cX12_pour 126 = .ok (.getfield 17, 3) := eX12_pour_123.2.2.2.1
theorem dX12_pour_129 : decode cX12_pour 129 = .ok (.iload_n 3, 1) := eX12_pour_123.2.2.2.2.1
theorem dX12_pour_130 : decode cX12_pour 130 = .ok (.iaload, 1) := eX12_pour_123.2.2.2.2.2.1
theorem dX12_pour_131 : decode cX12_pour 131 = .ok (.i2l, 1) := eX12_pour_123.2.2.2.2.2.2.1
theorem dX12_pour_132 : decode cX12_pour 132 = .ok (.lcmp, 1) := eX12_pour_123.2.2.2.2.2.2.2.1
theorem eX12_pour_133 : decode cX12_pour 133 = .ok (.ifCond .le 9, 3) ∧ decode cX12_pour 136 = .ok (.aload_n 0, 1) ∧ decode cX12_pour 137 = .ok (.iconst 4, 1) ∧ decode cX12_pour 138 = .ok (.invokevirtual 74, 3) ∧ decode cX12_pour 141 = .ok (.ireturn, 1) ∧ decode cX12_pour 142 = .ok (.iload_n 2, 1) ∧ decode cX12_pour 143 = .ok (.iload 4, 2) ∧ decode cX12_pour 145 = .ok (.if_icmp .ge 7, 3) ∧ True := dkl_ok (c := cX12_pour) [(.ifCond .le 9, 3), (.aload_n 0, 1), (.iconst 4, 1), (.invokevirtual 74, 3), (.ireturn, 1), (.iload_n 2, 1), (.iload 4, 2), (.if_icmp .ge 7, 3)] 133 (by decide +kernel)
theorem dX12_pour_133 : decode cX12_pour 133 = .ok (.ifCond .le 9, 3) := eX12_pour_133.1
theorem dX12_pour_136 : decode cX12_pour 136 = .ok (.aload_n 0, 1) := eX12_pour_133.2.1
theorem dX12_pour_137 : decode cX12_pour 137 = .ok (.iconst 4, 1) := eX12_pour_133.2.2.1
theorem dX12_pour_138 : decode cX12_pour 138 = .ok (.invokevirtual 74, 3) := eX12_pour_133.2.2.2.1
theorem dX12_pour_141 : decode cX12_pour 141 = .ok (.ireturn, 1) := eX12_pour_133.2.2.2.2.1
theorem dX12_pour_142 : decode cX12_pour 142 = .ok (.iload_n 2, 1) := eX12_pour_133.2.2.2.2.2.1
theorem dX12_pour_143 : decode cX12_pour 143 = .ok (.iload 4, 2) := eX12_pour_133.2.2.2.2.2.2.1
theorem dX12_pour_145 : decode cX12_pour 145 = .ok (.if_icmp .ge 7, 3) := eX12_pour_133.2.2.2.2.2.2.2.1
theorem eX12_pour_148 : decode cX12_pour 148 = .ok (.iconst 1, 1) ∧ decode cX12_pour 149 = .ok (.goto 4, 3) ∧ decode cX12_pour 152 = .ok (.iconst 0, 1) ∧ decode cX12_pour 153 = .ok (.istore 6, 2) ∧ decode cX12_pour 155 = .ok (.iconst 0, 1) ∧ decode cX12_pour 156 = .ok (.istore 7, 2) ∧ decode cX12_pour 158 = .ok (.iload 7, 2) ∧ decode cX12_pour 160 = .ok (.iload 5, 2) ∧ True := dkl_ok (c := cX12_pour) [(.iconst 1, 1), (.goto 4, 3), (.iconst 0, 1), (.istore 6, 2), (.iconst 0, 1), (.istore 7, 2), (.iload 7, 2), (.iload 5, 2)] 148 (by decide +kernel)
theorem dX12_pour_148 : decode cX12_pour 148 = .ok (.iconst 1, 1) := eX12_pour_148.1
theorem dX12_pour_149 : decode cX12_pour 149 = .ok (.goto 4, 3) := eX12_pour_148.2.1
theorem dX12_pour_152 : decode cX12_pour 152 = .ok (.iconst 0, 1) := eX12_pour_148.2.2.1
theorem dX12_pour_153 : decode cX12_pour 153 = .ok (.istore 6, 2) := eX12_pour_148.2.2.2.1
theorem dX12_pour_155 : decode cX12_pour 155 = .ok (.iconst 0, 1) := eX12_pour_148.2.2.2.2.1
theorem dX12_pour_156 : decode cX12_pour 156 = .ok (.istore 7, 2) := eX12_pour_148.2.2.2.2.2.1
theorem dX12_pour_158 : decode cX12_pour 158 = .ok (.iload 7, 2) := eX12_pour_148.2.2.2.2.2.2.1
theorem dX12_pour_160 : decode cX12_pour 160 = .ok (.iload 5, 2) := eX12_pour_148.2.2.2.2.2.2.2.1
theorem eX12_pour_162 : decode cX12_pour 162 = .ok (.if_icmp .ge 57, 3) ∧ decode cX12_pour 165 = .ok (.iload 6, 2) ∧ decode cX12_pour 167 = .ok (.ifCond .eq 13, 3) ∧ decode cX12_pour 170 = .ok (.iload 5, 2) ∧ decode cX12_pour 172 = .ok (.iconst 1, 1) ∧ decode cX12_pour 173 = .ok (.isub, 1) ∧ decode cX12_pour 174 = .ok (.iload 7, 2) ∧ decode cX12_pour 176 = .ok (.isub, 1) ∧ True := dkl_ok (c := cX12_pour) [(.if_icmp .ge 57, 3), (.iload 6, 2), (.ifCond .eq 13, 3), (.iload 5, 2), (.iconst 1, 1), (.isub, 1), (.iload 7, 2), (.isub, 1)] 162 (by decide +kernel)
theorem dX12_pour_162 : decode cX12_pour 162 = .ok (.if_icmp .ge 57, 3) := eX12_pour_162.1
theorem dX12_pour_165 : decode cX12_pour 165 = .ok (.iload 6, 2) := eX12_pour_162.2.1
theorem dX12_pour_167 : decode cX12_pour 167 = .ok (.ifCond .eq 13, 3) := eX12_pour_162.2.2.1
theorem dX12_pour_170 : decode cX12_pour 170 = .ok (.iload 5, 2) := eX12_pour_162.2.2.2.1
theorem dX12_pour_172 : decode cX12_pour 172 = .ok (.iconst 1, 1) := eX12_pour_162.2.2.2.2.1
theorem dX12_pour_173 : decode cX12_pour 173 = .ok (.isub, 1) := eX12_pour_162.2.2.2.2.2.1
theorem dX12_pour_174 : decode cX12_pour 174 = .ok (.iload 7, 2) := eX12_pour_162.2.2.2.2.2.2.1
theorem dX12_pour_176 : decode cX12_pour 176 = .ok (.isub, 1) := eX12_pour_162.2.2.2.2.2.2.2.1
theorem eX12_pour_177 : decode cX12_pour 177 = .ok (.goto 5, 3) ∧ decode cX12_pour 180 = .ok (.iload 7, 2) ∧ decode cX12_pour 182 = .ok (.istore 8, 2) ∧ decode cX12_pour 184 = .ok (.aload_n 0, 1) ∧ decode cX12_pour 185 = .ok (.getfield 20, 3) ∧ decode cX12_pour 188 = .ok (.bipush 60, 2) ∧ decode cX12_pour 190 = .ok (.iload_n 3, 1) ∧ decode cX12_pour 191 = .ok (.imul, 1) ∧ True := dkl_ok (c := cX12_pour) [(.goto 5, 3), (.iload 7, 2), (.istore 8, 2), (.aload_n 0, 1), (.getfield 20, 3), (.bipush 60, 2), (.iload_n 3, 1), (.imul, 1)] 177 (by decide +kernel)
theorem dX12_pour_177 : decode cX12_pour 177 = .ok (.goto 5, 3) := eX12_pour_177.1
theorem dX12_pour_180 : decode cX12_pour 180 = .ok (.iload 7, 2) := eX12_pour_177.2.1
theorem dX12_pour_182 : decode cX12_pour 182 = .ok (.istore 8, 2) := eX12_pour_177.2.2.1
theorem dX12_pour_184 : decode cX12_pour 184 = .ok (.aload_n 0, 1) := eX12_pour_177.2.2.2.1
theorem dX12_pour_185 : decode cX12_pour 185 = .ok (.getfield 20, 3) := eX12_pour_177.2.2.2.2.1
theorem dX12_pour_188 : decode cX12_pour 188 = .ok (.bipush 60, 2) := eX12_pour_177.2.2.2.2.2.1
theorem dX12_pour_190 : decode cX12_pour 190 = .ok (.iload_n 3, 1) := eX12_pour_177.2.2.2.2.2.2.1
theorem dX12_pour_191 : decode cX12_pour 191 = .ok (.imul, 1) := eX12_pour_177.2.2.2.2.2.2.2.1
theorem eX12_pour_192 : decode cX12_pour 192 = .ok (.iload 4, 2) ∧ decode cX12_pour 194 = .ok (.iadd, 1) ∧ decode cX12_pour 195 = .ok (.iload 8, 2) ∧ decode cX12_pour 197 = .ok (.iadd, 1) ∧ decode cX12_pour 198 = .ok (.aload_n 0, 1) ∧ decode cX12_pour 199 = .ok (.getfield 20, 3) ∧ decode cX12_pour 202 = .ok (.bipush 60, 2) ∧ decode cX12_pour 204 = .ok (.iload_n 1, 1) ∧ True := dkl_ok (c := cX12_pour) [(.iload 4, 2), (.iadd, 1), (.iload 8, 2), (.iadd, 1), (.aload_n 0, 1), (.getfield 20, 3), (.bipush 60, 2), (.iload_n 1, 1)] 192 (by decide +kernel)
theorem dX12_pour_192 : decode cX12_pour 192 = .ok (.iload 4, 2) := eX12_pour_192.1
theorem dX12_pour_194 : decode cX12_pour 194 = .ok (.iadd, 1) := eX12_pour_192.2.1
theorem dX12_pour_195 : decode cX12_pour 195 = .ok (.iload 8, 2) := eX12_pour_192.2.2.1
theorem dX12_pour_197 : decode cX12_pour 197 = .ok (.iadd, 1) := eX12_pour_192.2.2.2.1
theorem dX12_pour_198 : decode cX12_pour 198 = .ok (.aload_n 0, 1) := eX12_pour_192.2.2.2.2.1
theorem dX12_pour_199 : decode cX12_pour 199 = .ok (.getfield 20, 3) := eX12_pour_192.2.2.2.2.2.1
theorem dX12_pour_202 : decode cX12_pour 202 = .ok (.bipush 60, 2) := eX12_pour_192.2.2.2.2.2.2.1
theorem dX12_pour_204 : decode cX12_pour 204 = .ok (.iload_n 1, 1) := eX12_pour_192.2.2.2.2.2.2.2.1
theorem eX12_pour_205 : decode cX12_pour 205 = .ok (.imul, 1) ∧ decode cX12_pour 206 = .ok (.iload_n 2, 1) ∧ decode cX12_pour 207 = .ok (.iadd, 1) ∧ decode cX12_pour 208 = .ok (.iload 8, 2) ∧ decode cX12_pour 210 = .ok (.iadd, 1) ∧ decode cX12_pour 211 = .ok (.laload, 1) ∧ decode cX12_pour 212 = .ok (.lastore, 1) ∧ decode cX12_pour 213 = .ok (.iinc 7 1, 3) ∧ True := dkl_ok (c := cX12_pour) [(.imul, 1), (.iload_n 2, 1), (.iadd, 1), (.iload 8, 2), (.iadd, 1), (.laload, 1), (.lastore, 1), (.iinc 7 1, 3)] 205 (by decide +kernel)
theorem dX12_pour_205 : decode cX12_pour 205 = .ok (.imul, 1) := eX12_pour_205.1
theorem dX12_pour_206 : decode cX12_pour 206 = .ok (.iload_n 2, 1) := eX12_pour_205.2.1
theorem dX12_pour_207 : decode cX12_pour 207 = .ok (.iadd, 1) := eX12_pour_205.2.2.1
theorem dX12_pour_208 : decode cX12_pour 208 = .ok (.iload 8, 2) := eX12_pour_205.2.2.2.1
theorem dX12_pour_210 : decode cX12_pour 210 = .ok (.iadd, 1) := eX12_pour_205.2.2.2.2.1
theorem dX12_pour_211 : decode cX12_pour 211 = .ok (.laload, 1) := eX12_pour_205.2.2.2.2.2.1
theorem dX12_pour_212 : decode cX12_pour 212 = .ok (.lastore, 1) := eX12_pour_205.2.2.2.2.2.2.1
theorem dX12_pour_213 : decode cX12_pour 213 = .ok (.iinc 7 1, 3) := eX12_pour_205.2.2.2.2.2.2.2.1
theorem eX12_pour_216 : decode cX12_pour 216 = .ok (.goto (-58), 3) ∧ decode cX12_pour 219 = .ok (.iconst 1, 1) ∧ decode cX12_pour 220 = .ok (.ireturn, 1) ∧ True := dkl_ok (c := cX12_pour) [(.goto (-58), 3), (.iconst 1, 1), (.ireturn, 1)] 216 (by decide +kernel)
theorem dX12_pour_216 : decode cX12_pour 216 = .ok (.goto (-58), 3) := eX12_pour_216.1
theorem dX12_pour_219 : decode cX12_pour 219 = .ok (.iconst 1, 1) := eX12_pour_216.2.1
theorem dX12_pour_220 : decode cX12_pour 220 = .ok (.ireturn, 1) := eX12_pour_216.2.2.1
theorem eX12_isTray_0 : decode cX12_isTray 0 = .ok (.iload_n 1, 1) ∧ decode cX12_isTray 1 = .ok (.i2l, 1) ∧ decode cX12_isTray 2 = .ok (.lconst 0, 1) ∧ decode cX12_isTray 3 = .ok (.ldc2_w 92, 3) ∧ decode cX12_isTray 6 = .ok (.invokestatic 94, 3) ∧ decode cX12_isTray 9 = .ok (.ireturn, 1) ∧ True := dkl_ok (c := cX12_isTray) [(.iload_n 1, 1), (.i2l, 1), (.lconst 0, 1), (.ldc2_w 92, 3), (.invokestatic 94, 3), (.ireturn, 1)] 0 (by decide +kernel)
theorem dX12_isTray_0 : decode cX12_isTray 0 = .ok (.iload_n 1, 1) := eX12_isTray_0.1
theorem dX12_isTray_1 : decode cX12_isTray 1 = .ok (.i2l, 1) := eX12_isTray_0.2.1
theorem dX12_isTray_2 : decode cX12_isTray 2 = .ok (.lconst 0, 1) := eX12_isTray_0.2.2.1
theorem dX12_isTray_3 : decode cX12_isTray 3 = .ok (.ldc2_w 92, 3) := eX12_isTray_0.2.2.2.1
theorem dX12_isTray_6 : decode cX12_isTray 6 = .ok (.invokestatic 94, 3) := eX12_isTray_0.2.2.2.2.1
theorem dX12_isTray_9 : decode cX12_isTray 9 = .ok (.ireturn, 1) := eX12_isTray_0.2.2.2.2.2.1
theorem eX12_look2_0 : decode cX12_look2 0 = .ok (.iload_n 1, 1) ∧ decode cX12_look2 1 = .ok (.aload_n 0, 1) ∧ decode cX12_look2 2 = .ok (.getfield 98, 3) ∧ decode cX12_look2 5 = .ok (.if_icmp .ge 16, 3) ∧ decode cX12_look2 8 = .ok (.aload_n 0, 1) ∧ decode cX12_look2 9 = .ok (.getfield 24, 3) ∧ decode cX12_look2 12 = .ok (.iload_n 1, 1) ∧ decode cX12_look2 13 = .ok (.baload, 1) ∧ True := dkl_ok (c := cX12_look2) [(.iload_n 1, 1), (.aload_n 0, 1), (.getfield 98, 3), (.if_icmp .ge 16, 3), (.aload_n 0, 1), (.getfield 24, 3), (.iload_n 1, 1), (.baload, 1)] 0 (by decide +kernel)
theorem dX12_look2_0 : decode cX12_look2 0 = .ok (.iload_n 1, 1) := eX12_look2_0.1
theorem dX12_look2_1 : decode cX12_look2 1 = .ok (.aload_n 0, 1) := eX12_look2_0.2.1
theorem dX12_look2_2 : decode cX12_look2 2 = .ok (.getfield 98, 3) := eX12_look2_0.2.2.1
theorem dX12_look2_5 : decode cX12_look2 5 = .ok (.if_icmp .ge 16, 3) := eX12_look2_0.2.2.2.1
theorem dX12_look2_8 : decode cX12_look2 8 = .ok (.aload_n 0, 1) := eX12_look2_0.2.2.2.2.1
theorem dX12_look2_9 : decode cX12_look2 9 = .ok (.getfield 24, 3) := eX12_look2_0.2.2.2.2.2.1
theorem dX12_look2_12 : decode cX12_look2 12 = .ok (.iload_n 1, 1) := eX12_look2_0.2.2.2.2.2.2.1
theorem dX12_look2_13 : decode cX12_look2 13 = .ok (.baload, 1) := eX12_look2_0.2.2.2.2.2.2.2.1
theorem eX12_look2_14 : decode cX12_look2 14 = .ok (.sipush 255, 3) ∧ decode cX12_look2 17 = .ok (.iand, 1) ∧ decode cX12_look2 18 = .ok (.goto 4, 3) ∧ decode cX12_look2 21 = .ok (.iconst 0, 1) ∧ decode cX12_look2 22 = .ok (.ireturn, 1) ∧ True := dkl_ok (c := cX12_look2) [(.sipush 255, 3), (.iand, 1), (.goto 4, 3), (.iconst 0, 1), (.ireturn, 1)] 14 (by decide +kernel)
theorem dX12_look2_14 : decode cX12_look2 14 = .ok (.sipush 255, 3) := eX12_look2_14.1
theorem dX12_look2_17 : decode cX12_look2 17 = .ok (.iand, 1) := eX12_look2_14.2.1
theorem dX12_look2_18 : decode cX12_look2 18 = .ok (.goto 4, 3) := eX12_look2_14.2.2.1
theorem dX12_look2_21 : decode cX12_look2 21 = .ok (.iconst 0, 1) := eX12_look2_14.2.2.2.1
theorem dX12_look2_22 : decode cX12_look2 22 = .ok (.ireturn, 1) := eX12_look2_14.2.2.2.2.1
theorem eX12_isLetter_0 : decode cX12_isLetter 0 = .ok (.iload_n 0, 1) ∧ decode cX12_isLetter 1 = .ok (.bipush 97, 2) ∧ decode cX12_isLetter 3 = .ok (.if_icmp .lt 13, 3) ∧ decode cX12_isLetter 6 = .ok (.iload_n 0, 1) ∧ decode cX12_isLetter 7 = .ok (.bipush 122, 2) ∧ decode cX12_isLetter 9 = .ok (.if_icmp .gt 7, 3) ∧ decode cX12_isLetter 12 = .ok (.iconst 1, 1) ∧ decode cX12_isLetter 13 = .ok (.goto 4, 3) ∧ True := dkl_ok (c := cX12_isLetter) [(.iload_n 0, 1), (.bipush 97, 2), (.if_icmp .lt 13, 3), (.iload_n 0, 1), (.bipush 122, 2), (.if_icmp .gt 7, 3), (.iconst 1, 1), (.goto 4, 3)] 0 (by decide +kernel)
theorem dX12_isLetter_0 : decode cX12_isLetter 0 = .ok (.iload_n 0, 1) := eX12_isLetter_0.1
theorem dX12_isLetter_1 : decode cX12_isLetter 1 = .ok (.bipush 97, 2) := eX12_isLetter_0.2.1
theorem dX12_isLetter_3 : decode cX12_isLetter 3 = .ok (.if_icmp .lt 13, 3) := eX12_isLetter_0.2.2.1
theorem dX12_isLetter_6 : decode cX12_isLetter 6 = .ok (.iload_n 0, 1) := eX12_isLetter_0.2.2.2.1
theorem dX12_isLetter_7 : decode cX12_isLetter 7 = .ok (.bipush 122, 2) := eX12_isLetter_0.2.2.2.2.1
theorem dX12_isLetter_9 : decode cX12_isLetter 9 = .ok (.if_icmp .gt 7, 3) := eX12_isLetter_0.2.2.2.2.2.1
theorem dX12_isLetter_12 : decode cX12_isLetter 12 = .ok (.iconst 1, 1) := eX12_isLetter_0.2.2.2.2.2.2.1
theorem dX12_isLetter_13 : decode cX12_isLetter 13 = .ok (.goto 4, 3) := eX12_isLetter_0.2.2.2.2.2.2.2.1
theorem eX12_isLetter_16 : decode cX12_isLetter 16 = .ok (.iconst 0, 1) ∧ decode cX12_isLetter 17 = .ok (.ireturn, 1) ∧ True := dkl_ok (c := cX12_isLetter) [(.iconst 0, 1), (.ireturn, 1)] 16 (by decide +kernel)
theorem dX12_isLetter_16 : decode cX12_isLetter 16 = .ok (.iconst 0, 1) := eX12_isLetter_16.1
theorem dX12_isLetter_17 : decode cX12_isLetter 17 = .ok (.ireturn, 1) := eX12_isLetter_16.2.1
theorem eX12_isDigit_0 : decode cX12_isDigit 0 = .ok (.iload_n 0, 1) ∧ decode cX12_isDigit 1 = .ok (.bipush 48, 2) ∧ decode cX12_isDigit 3 = .ok (.if_icmp .lt 13, 3) ∧ decode cX12_isDigit 6 = .ok (.iload_n 0, 1) ∧ decode cX12_isDigit 7 = .ok (.bipush 57, 2) ∧ decode cX12_isDigit 9 = .ok (.if_icmp .gt 7, 3) ∧ decode cX12_isDigit 12 = .ok (.iconst 1, 1) ∧ decode cX12_isDigit 13 = .ok (.goto 4, 3) ∧ True := dkl_ok (c := cX12_isDigit) [(.iload_n 0, 1), (.bipush 48, 2), (.if_icmp .lt 13, 3), (.iload_n 0, 1), (.bipush 57, 2), (.if_icmp .gt 7, 3), (.iconst 1, 1), (.goto 4, 3)] 0 (by decide +kernel)
theorem dX12_isDigit_0 : decode cX12_isDigit 0 = .ok (.iload_n 0, 1) := eX12_isDigit_0.1
theorem dX12_isDigit_1 : decode cX12_isDigit 1 = .ok (.bipush 48, 2) := eX12_isDigit_0.2.1
theorem dX12_isDigit_3 : decode cX12_isDigit 3 = .ok (.if_icmp .lt 13, 3) := eX12_isDigit_0.2.2.1
theorem dX12_isDigit_6 : decode cX12_isDigit 6 = .ok (.iload_n 0, 1) := eX12_isDigit_0.2.2.2.1
theorem dX12_isDigit_7 : decode cX12_isDigit 7 = .ok (.bipush 57, 2) := eX12_isDigit_0.2.2.2.2.1
theorem dX12_isDigit_9 : decode cX12_isDigit 9 = .ok (.if_icmp .gt 7, 3) := eX12_isDigit_0.2.2.2.2.2.1
theorem dX12_isDigit_12 : decode cX12_isDigit 12 = .ok (.iconst 1, 1) := eX12_isDigit_0.2.2.2.2.2.2.1
theorem dX12_isDigit_13 : decode cX12_isDigit 13 = .ok (.goto 4, 3) := eX12_isDigit_0.2.2.2.2.2.2.2.1
theorem eX12_isDigit_16 : decode cX12_isDigit 16 = .ok (.iconst 0, 1) ∧ decode cX12_isDigit 17 = .ok (.ireturn, 1) ∧ True := dkl_ok (c := cX12_isDigit) [(.iconst 0, 1), (.ireturn, 1)] 16 (by decide +kernel)
theorem dX12_isDigit_16 : decode cX12_isDigit 16 = .ok (.iconst 0, 1) := eX12_isDigit_16.1
theorem dX12_isDigit_17 : decode cX12_isDigit 17 = .ok (.ireturn, 1) := eX12_isDigit_16.2.1
theorem eX12_isSignByte_0 : decode cX12_isSignByte 0 = .ok (.iload_n 1, 1) ∧ decode cX12_isSignByte 1 = .ok (.bipush 59, 2) ∧ decode cX12_isSignByte 3 = .ok (.if_icmp .eq 21, 3) ∧ decode cX12_isSignByte 6 = .ok (.iload_n 1, 1) ∧ decode cX12_isSignByte 7 = .ok (.bipush 60, 2) ∧ decode cX12_isSignByte 9 = .ok (.if_icmp .eq 15, 3) ∧ decode cX12_isSignByte 12 = .ok (.iload_n 1, 1) ∧ decode cX12_isSignByte 13 = .ok (.bipush 62, 2) ∧ True := dkl_ok (c := cX12_isSignByte) [(.iload_n 1, 1), (.bipush 59, 2), (.if_icmp .eq 21, 3), (.iload_n 1, 1), (.bipush 60, 2), (.if_icmp .eq 15, 3), (.iload_n 1, 1), (.bipush 62, 2)] 0 (by decide +kernel)
theorem dX12_isSignByte_0 : decode cX12_isSignByte 0 = .ok (.iload_n 1, 1) := eX12_isSignByte_0.1
theorem dX12_isSignByte_1 : decode cX12_isSignByte 1 = .ok (.bipush 59, 2) := eX12_isSignByte_0.2.1
theorem dX12_isSignByte_3 : decode cX12_isSignByte 3 = .ok (.if_icmp .eq 21, 3) := eX12_isSignByte_0.2.2.1
theorem dX12_isSignByte_6 : decode cX12_isSignByte 6 = .ok (.iload_n 1, 1) := eX12_isSignByte_0.2.2.2.1
theorem dX12_isSignByte_7 : decode cX12_isSignByte 7 = .ok (.bipush 60, 2) := eX12_isSignByte_0.2.2.2.2.1
theorem dX12_isSignByte_9 : decode cX12_isSignByte 9 = .ok (.if_icmp .eq 15, 3) := eX12_isSignByte_0.2.2.2.2.2.1
theorem dX12_isSignByte_12 : decode cX12_isSignByte 12 = .ok (.iload_n 1, 1) := eX12_isSignByte_0.2.2.2.2.2.2.1
theorem dX12_isSignByte_13 : decode cX12_isSignByte 13 = .ok (.bipush 62, 2) := eX12_isSignByte_0.2.2.2.2.2.2.2.1
theorem eX12_isSignByte_15 : decode cX12_isSignByte 15 = .ok (.if_icmp .eq 9, 3) ∧ decode cX12_isSignByte 18 = .ok (.iload_n 1, 1) ∧ decode cX12_isSignByte 19 = .ok (.bipush 61, 2) ∧ decode cX12_isSignByte 21 = .ok (.if_icmp .ne 7, 3) ∧ decode cX12_isSignByte 24 = .ok (.iconst 1, 1) ∧ decode cX12_isSignByte 25 = .ok (.goto 4, 3) ∧ decode cX12_isSignByte 28 = .ok (.iconst 0, 1) ∧ decode cX12_isSignByte 29 = .ok (.ireturn, 1) ∧ True := dkl_ok (c := cX12_isSignByte) [(.if_icmp .eq 9, 3), (.iload_n 1, 1), (.bipush 61, 2), (.if_icmp .ne 7, 3), (.iconst 1, 1), (.goto 4, 3), (.iconst 0, 1), (.ireturn, 1)] 15 (by decide +kernel)
theorem dX12_isSignByte_15 : decode cX12_isSignByte 15 = .ok (.if_icmp .eq 9, 3) := eX12_isSignByte_15.1
theorem dX12_isSignByte_18 : decode cX12_isSignByte 18 = .ok (.iload_n 1, 1) := eX12_isSignByte_15.2.1
theorem dX12_isSignByte_19 : decode cX12_isSignByte 19 = .ok (.bipush 61, 2) := eX12_isSignByte_15.2.2.1
theorem dX12_isSignByte_21 : decode cX12_isSignByte 21 = .ok (.if_icmp .ne 7, 3) := eX12_isSignByte_15.2.2.2.1
theorem dX12_isSignByte_24 : decode cX12_isSignByte 24 = .ok (.iconst 1, 1) := eX12_isSignByte_15.2.2.2.2.1
theorem dX12_isSignByte_25 : decode cX12_isSignByte 25 = .ok (.goto 4, 3) := eX12_isSignByte_15.2.2.2.2.2.1
theorem dX12_isSignByte_28 : decode cX12_isSignByte 28 = .ok (.iconst 0, 1) := eX12_isSignByte_15.2.2.2.2.2.2.1
theorem dX12_isSignByte_29 : decode cX12_isSignByte 29 = .ok (.ireturn, 1) := eX12_isSignByte_15.2.2.2.2.2.2.2.1
theorem eX12_next_0 : decode cX12_next 0 = .ok (.aload_n 0, 1) ∧ decode cX12_next 1 = .ok (.aload_n 0, 1) ∧ decode cX12_next 2 = .ok (.getfield 101, 3) ∧ decode cX12_next 5 = .ok (.putfield 104, 3) ∧ decode cX12_next 8 = .ok (.aload_n 0, 1) ∧ decode cX12_next 9 = .ok (.getfield 104, 3) ∧ decode cX12_next 12 = .ok (.aload_n 0, 1) ∧ decode cX12_next 13 = .ok (.getfield 98, 3) ∧ True := dkl_ok (c := cX12_next) [(.aload_n 0, 1), (.aload_n 0, 1), (.getfield 101, 3), (.putfield 104, 3), (.aload_n 0, 1), (.getfield 104, 3), (.aload_n 0, 1), (.getfield 98, 3)] 0 (by decide +kernel)
theorem dX12_next_0 : decode cX12_next 0 = .ok (.aload_n 0, 1) := eX12_next_0.1
theorem dX12_next_1 : decode cX12_next 1 = .ok (.aload_n 0, 1) := eX12_next_0.2.1
theorem dX12_next_2 : decode cX12_next 2 = .ok (.getfield 101, 3) := eX12_next_0.2.2.1
theorem dX12_next_5 : decode cX12_next 5 = .ok (.putfield 104, 3) := eX12_next_0.2.2.2.1
theorem dX12_next_8 : decode cX12_next 8 = .ok (.aload_n 0, 1) := eX12_next_0.2.2.2.2.1
theorem dX12_next_9 : decode cX12_next 9 = .ok (.getfield 104, 3) := eX12_next_0.2.2.2.2.2.1
theorem dX12_next_12 : decode cX12_next 12 = .ok (.aload_n 0, 1) := eX12_next_0.2.2.2.2.2.2.1
theorem dX12_next_13 : decode cX12_next 13 = .ok (.getfield 98, 3) := eX12_next_0.2.2.2.2.2.2.2.1
theorem eX12_next_16 : decode cX12_next 16 = .ok (.if_icmp .ge 42, 3) ∧ decode cX12_next 19 = .ok (.aload_n 0, 1) ∧ decode cX12_next 20 = .ok (.aload_n 0, 1) ∧ decode cX12_next 21 = .ok (.getfield 104, 3) ∧ decode cX12_next 24 = .ok (.invokevirtual 107, 3) ∧ decode cX12_next 27 = .ok (.bipush 10, 2) ∧ decode cX12_next 29 = .ok (.if_icmp .eq 16, 3) ∧ decode cX12_next 32 = .ok (.aload_n 0, 1) ∧ True := dkl_ok (c := cX12_next) [(.if_icmp .ge 42, 3), (.aload_n 0, 1), (.aload_n 0, 1), (.getfield 104, 3), (.invokevirtual 107, 3), (.bipush 10, 2), (.if_icmp .eq 16, 3), (.aload_n 0, 1)] 16 (by decide +kernel)
theorem dX12_next_16 : decode cX12_next 16 = .ok (.if_icmp .ge 42, 3) := eX12_next_16.1
theorem dX12_next_19 : decode cX12_next 19 = .ok (.aload_n 0, 1) := eX12_next_16.2.1
theorem dX12_next_20 : decode cX12_next 20 = .ok (.aload_n 0, 1) := eX12_next_16.2.2.1
theorem dX12_next_21 : decode cX12_next 21 = .ok (.getfield 104, 3) := eX12_next_16.2.2.2.1
theorem dX12_next_24 : decode cX12_next 24 = .ok (.invokevirtual 107, 3) := eX12_next_16.2.2.2.2.1
theorem dX12_next_27 : decode cX12_next 27 = .ok (.bipush 10, 2) := eX12_next_16.2.2.2.2.2.1
theorem dX12_next_29 : decode cX12_next 29 = .ok (.if_icmp .eq 16, 3) := eX12_next_16.2.2.2.2.2.2.1
theorem dX12_next_32 : decode cX12_next 32 = .ok (.aload_n 0, 1) := eX12_next_16.2.2.2.2.2.2.2.1
theorem eX12_next_33 : decode cX12_next 33 = .ok (.aload_n 0, 1) ∧ decode cX12_next 34 = .ok (.getfield 104, 3) ∧ decode cX12_next 37 = .ok (.invokevirtual 107, 3) ∧ decode cX12_next 40 = .ok (.bipush 32, 2) ∧ decode cX12_next 42 = .ok (.if_icmp .ne 16, 3) ∧ decode cX12_next 45 = .ok (.aload_n 0, 1) ∧ decode cX12_next 46 = .ok (.dup, 1) ∧ decode cX12_next 47 = .ok (.getfield 104, 3) ∧ True := dkl_ok (c := cX12_next) [(.aload_n 0, 1), (.getfield 104, 3), (.invokevirtual 107, 3), (.bipush 32, 2), (.if_icmp .ne 16, 3), (.aload_n 0, 1), (.dup, 1), (.getfield 104, 3)] 33 (by decide +kernel)
theorem dX12_next_33 : decode cX12_next 33 = .ok (.aload_n 0, 1) := eX12_next_33.1
theorem dX12_next_34 : decode cX12_next 34 = .ok (.getfield 104, 3) := eX12_next_33.2.1
theorem dX12_next_37 : decode cX12_next 37 = .ok (.invokevirtual 107, 3) := eX12_next_33.2.2.1
theorem dX12_next_40 : decode cX12_next 40 = .ok (.bipush 32, 2) := eX12_next_33.2.2.2.1
theorem dX12_next_42 : decode cX12_next 42 = .ok (.if_icmp .ne 16, 3) := eX12_next_33.2.2.2.2.1
theorem dX12_next_45 : decode cX12_next 45 = .ok (.aload_n 0, 1) := eX12_next_33.2.2.2.2.2.1
theorem dX12_next_46 : decode cX12_next 46 = .ok (.dup, 1) := eX12_next_33.2.2.2.2.2.2.1
theorem dX12_next_47 : decode cX12_next 47 = .ok (.getfield 104, 3) := eX12_next_33.2.2.2.2.2.2.2.1
theorem eX12_next_50 : decode cX12_next 50 = .ok (.iconst 1, 1) ∧ decode cX12_next 51 = .ok (.iadd, 1) ∧ decode cX12_next 52 = .ok (.putfield 104, 3) ∧ decode cX12_next 55 = .ok (.goto (-47), 3) ∧ decode cX12_next 58 = .ok (.aload_n 0, 1) ∧ decode cX12_next 59 = .ok (.aload_n 0, 1) ∧ decode cX12_next 60 = .ok (.getfield 104, 3) ∧ decode cX12_next 63 = .ok (.putfield 101, 3) ∧ True := dkl_ok (c := cX12_next) [(.iconst 1, 1), (.iadd, 1), (.putfield 104, 3), (.goto (-47), 3), (.aload_n 0, 1), (.aload_n 0, 1), (.getfield 104, 3), (.putfield 101, 3)] 50 (by decide +kernel)
theorem dX12_next_50 : decode cX12_next 50 = .ok (.iconst 1, 1) := eX12_next_50.1
theorem dX12_next_51 : decode cX12_next 51 = .ok (.iadd, 1) := eX12_next_50.2.1
theorem dX12_next_52 : decode cX12_next 52 = .ok (.putfield 104, 3) := eX12_next_50.2.2.1
theorem dX12_next_55 : decode cX12_next 55 = .ok (.goto (-47), 3) := eX12_next_50.2.2.2.1
theorem dX12_next_58 : decode cX12_next 58 = .ok (.aload_n 0, 1) := eX12_next_50.2.2.2.2.1
theorem dX12_next_59 : decode cX12_next 59 = .ok (.aload_n 0, 1) := eX12_next_50.2.2.2.2.2.1
theorem dX12_next_60 : decode cX12_next 60 = .ok (.getfield 104, 3) := eX12_next_50.2.2.2.2.2.2.1
theorem dX12_next_63 : decode cX12_next 63 = .ok (.putfield 101, 3) := eX12_next_50.2.2.2.2.2.2.2.1
theorem eX12_next_66 : decode cX12_next 66 = .ok (.aload_n 0, 1) ∧ decode cX12_next 67 = .ok (.getfield 104, 3) ∧ decode cX12_next 70 = .ok (.aload_n 0, 1) ∧ decode cX12_next 71 = .ok (.getfield 98, 3) ∧ decode cX12_next 74 = .ok (.if_icmp .lt 9, 3) ∧ decode cX12_next 77 = .ok (.aload_n 0, 1) ∧ decode cX12_next 78 = .ok (.iconst 0, 1) ∧ decode cX12_next 79 = .ok (.putfield 110, 3) ∧ True := dkl_ok (c := cX12_next) [(.aload_n 0, 1), (.getfield 104, 3), (.aload_n 0, 1), (.getfield 98, 3), (.if_icmp .lt 9, 3), (.aload_n 0, 1), (.iconst 0, 1), (.putfield 110, 3)] 66 (by decide +kernel)
theorem dX12_next_66 : decode cX12_next 66 = .ok (.aload_n 0, 1) := eX12_next_66.1
theorem dX12_next_67 : decode cX12_next 67 = .ok (.getfield 104, 3) := eX12_next_66.2.1
theorem dX12_next_70 : decode cX12_next 70 = .ok (.aload_n 0, 1) := eX12_next_66.2.2.1
theorem dX12_next_71 : decode cX12_next 71 = .ok (.getfield 98, 3) := eX12_next_66.2.2.2.1
theorem dX12_next_74 : decode cX12_next 74 = .ok (.if_icmp .lt 9, 3) := eX12_next_66.2.2.2.2.1
theorem dX12_next_77 : decode cX12_next 77 = .ok (.aload_n 0, 1) := eX12_next_66.2.2.2.2.2.1
theorem dX12_next_78 : decode cX12_next 78 = .ok (.iconst 0, 1) := eX12_next_66.2.2.2.2.2.2.1
theorem dX12_next_79 : decode cX12_next 79 = .ok (.putfield 110, 3) := eX12_next_66.2.2.2.2.2.2.2.1
theorem eX12_next_82 : decode cX12_next 82 = .ok (.return_, 1) ∧ decode cX12_next 83 = .ok (.aload_n 0, 1) ∧ decode cX12_next 84 = .ok (.aload_n 0, 1) ∧ decode cX12_next 85 = .ok (.getfield 104, 3) ∧ decode cX12_next 88 = .ok (.invokevirtual 107, 3) ∧ decode cX12_next 91 = .ok (.istore_n 1, 1) ∧ decode cX12_next 92 = .ok (.iload_n 1, 1) ∧ decode cX12_next 93 = .ok (.invokestatic 113, 3) ∧ True := dkl_ok (c := cX12_next) [(.return_, 1), (.aload_n 0, 1), (.aload_n 0, 1), (.getfield 104, 3), (.invokevirtual 107, 3), (.istore_n 1, 1), (.iload_n 1, 1), (.invokestatic 113, 3)] 82 (by decide +kernel)
theorem dX12_next_82 : decode cX12_next 82 = .ok (.return_, 1) := eX12_next_82.1
theorem dX12_next_83 : decode cX12_next 83 = .ok (.aload_n 0, 1) := eX12_next_82.2.1
theorem dX12_next_84 : decode cX12_next 84 = .ok (.aload_n 0, 1) := eX12_next_82.2.2.1
theorem dX12_next_85 : decode cX12_next 85 = .ok (.getfield 104, 3) := eX12_next_82.2.2.2.1
theorem dX12_next_88 : decode cX12_next 88 = .ok (.invokevirtual 107, 3) := eX12_next_82.2.2.2.2.1
theorem dX12_next_91 : decode cX12_next 91 = .ok (.istore_n 1, 1) := eX12_next_82.2.2.2.2.2.1
theorem dX12_next_92 : decode cX12_next 92 = .ok (.iload_n 1, 1) := eX12_next_82.2.2.2.2.2.2.1
theorem dX12_next_93 : decode cX12_next 93 = .ok (.invokestatic 113, 3) := eX12_next_82.2.2.2.2.2.2.2.1
theorem eX12_next_96 : decode cX12_next 96 = .ok (.ifCond .eq 102, 3) ∧ decode cX12_next 99 = .ok (.aload_n 0, 1) ∧ decode cX12_next 100 = .ok (.iconst 1, 1) ∧ decode cX12_next 101 = .ok (.putfield 110, 3) ∧ decode cX12_next 104 = .ok (.aload_n 0, 1) ∧ decode cX12_next 105 = .ok (.lconst 0, 1) ∧ decode cX12_next 106 = .ok (.putfield 116, 3) ∧ decode cX12_next 109 = .ok (.aload_n 0, 1) ∧ True := dkl_ok (c := cX12_next) [(.ifCond .eq 102, 3), (.aload_n 0, 1), (.iconst 1, 1), (.putfield 110, 3), (.aload_n 0, 1), (.lconst 0, 1), (.putfield 116, 3), (.aload_n 0, 1)] 96 (by decide +kernel)
theorem dX12_next_96 : decode cX12_next 96 = .ok (.ifCond .eq 102, 3) := eX12_next_96.1
theorem dX12_next_99 : decode cX12_next 99 = .ok (.aload_n 0, 1) := eX12_next_96.2.1
theorem dX12_next_100 : decode cX12_next 100 = .ok (.iconst 1, 1) := eX12_next_96.2.2.1
theorem dX12_next_101 : decode cX12_next 101 = .ok (.putfield 110, 3) := eX12_next_96.2.2.2.1
theorem dX12_next_104 : decode cX12_next 104 = .ok (.aload_n 0, 1) := eX12_next_96.2.2.2.2.1
theorem dX12_next_105 : decode cX12_next 105 = .ok (.lconst 0, 1) := eX12_next_96.2.2.2.2.2.1
theorem dX12_next_106 : decode cX12_next 106 = .ok (.putfield 116, 3) := eX12_next_96.2.2.2.2.2.2.1
theorem dX12_next_109 : decode cX12_next 109 = .ok (.aload_n 0, 1) := eX12_next_96.2.2.2.2.2.2.2.1
theorem eX12_next_110 : decode cX12_next 110 = .ok (.aload_n 0, 1) ∧ decode cX12_next 111 = .ok (.getfield 101, 3) ∧ decode cX12_next 114 = .ok (.invokevirtual 107, 3) ∧ decode cX12_next 117 = .ok (.invokestatic 113, 3) ∧ decode cX12_next 120 = .ok (.ifCond .eq 62, 3) ∧ decode cX12_next 123 = .ok (.aload_n 0, 1) ∧ decode cX12_next 124 = .ok (.aload_n 0, 1) ∧ decode cX12_next 125 = .ok (.getfield 101, 3) ∧ True := dkl_ok (c := cX12_next) [(.aload_n 0, 1), (.getfield 101, 3), (.invokevirtual 107, 3), (.invokestatic 113, 3), (.ifCond .eq 62, 3), (.aload_n 0, 1), (.aload_n 0, 1), (.getfield 101, 3)] 110 (by decide +kernel)
theorem dX12_next_110 : decode cX12_next 110 = .ok (.aload_n 0, 1) := eX12_next_110.1
theorem dX12_next_111 : decode cX12_next 111 = .ok (.getfield 101, 3) := eX12_next_110.2.1
theorem dX12_next_114 : decode cX12_next 114 = .ok (.invokevirtual 107, 3) := eX12_next_110.2.2.1
theorem dX12_next_117 : decode cX12_next 117 = .ok (.invokestatic 113, 3) := eX12_next_110.2.2.2.1
theorem dX12_next_120 : decode cX12_next 120 = .ok (.ifCond .eq 62, 3) := eX12_next_110.2.2.2.2.1
theorem dX12_next_123 : decode cX12_next 123 = .ok (.aload_n 0, 1) := eX12_next_110.2.2.2.2.2.1
theorem dX12_next_124 : decode cX12_next 124 = .ok (.aload_n 0, 1) := eX12_next_110.2.2.2.2.2.2.1
theorem dX12_next_125 : decode cX12_next 125 = .ok (.getfield 101, 3) := eX12_next_110.2.2.2.2.2.2.2.1
theorem eX12_next_128 : decode cX12_next 128 = .ok (.aload_n 0, 1) ∧ decode cX12_next 129 = .ok (.getfield 104, 3) ∧ decode cX12_next 132 = .ok (.isub, 1) ∧ decode cX12_next 133 = .ok (.bipush 8, 2) ∧ decode cX12_next 135 = .ok (.if_icmp .ge 28, 3) ∧ decode cX12_next 138 = .ok (.aload_n 0, 1) ∧ decode cX12_next 139 = .ok (.getfield 116, 3) ∧ decode cX12_next 142 = .ok (.ldc2_w 119, 3) ∧ True := dkl_ok (c := cX12_next) [(.aload_n 0, 1), (.getfield 104, 3), (.isub, 1), (.bipush 8, 2), (.if_icmp .ge 28, 3), (.aload_n 0, 1), (.getfield 116, 3), (.ldc2_w 119, 3)] 128 (by decide +kernel)
theorem dX12_next_128 : decode cX12_next 128 = .ok (.aload_n 0, 1) := eX12_next_128.1
theorem dX12_next_129 : decode cX12_next 129 = .ok (.getfield 104, 3) := eX12_next_128.2.1
theorem dX12_next_132 : decode cX12_next 132 = .ok (.isub, 1) := eX12_next_128.2.2.1
theorem dX12_next_133 : decode cX12_next 133 = .ok (.bipush 8, 2) := eX12_next_128.2.2.2.1
theorem dX12_next_135 : decode cX12_next 135 = .ok (.if_icmp .ge 28, 3) := eX12_next_128.2.2.2.2.1
theorem dX12_next_138 : decode cX12_next 138 = .ok (.aload_n 0, 1) := eX12_next_128.2.2.2.2.2.1
theorem dX12_next_139 : decode cX12_next 139 = .ok (.getfield 116, 3) := eX12_next_128.2.2.2.2.2.2.1
theorem dX12_next_142 : decode cX12_next 142 = .ok (.ldc2_w 119, 3) := eX12_next_128.2.2.2.2.2.2.2.1
theorem eX12_next_145 : decode cX12_next 145 = .ok (.lmul, 1) ∧ decode cX12_next 146 = .ok (.aload_n 0, 1) ∧ decode cX12_next 147 = .ok (.aload_n 0, 1) ∧ decode cX12_next 148 = .ok (.getfield 101, 3) ∧ decode cX12_next 151 = .ok (.invokevirtual 107, 3) ∧ decode cX12_next 154 = .ok (.i2l, 1) ∧ decode cX12_next 155 = .ok (.ladd, 1) ∧ decode cX12_next 156 = .ok (.ldc2_w 121, 3) ∧ True := dkl_ok (c := cX12_next) [(.lmul, 1), (.aload_n 0, 1), (.aload_n 0, 1), (.getfield 101, 3), (.invokevirtual 107, 3), (.i2l, 1), (.ladd, 1), (.ldc2_w 121, 3)] 145 (by decide +kernel)
theorem dX12_next_145 : decode cX12_next 145 = .ok (.lmul, 1) := eX12_next_145.1
theorem dX12_next_146 : decode cX12_next 146 = .ok (.aload_n 0, 1) := eX12_next_145.2.1
theorem dX12_next_147 : decode cX12_next 147 = .ok (.aload_n 0, 1) := eX12_next_145.2.2.1
theorem dX12_next_148 : decode cX12_next 148 = .ok (.getfield 101, 3) := eX12_next_145.2.2.2.1
theorem dX12_next_151 : decode cX12_next 151 = .ok (.invokevirtual 107, 3) := eX12_next_145.2.2.2.2.1
theorem dX12_next_154 : decode cX12_next 154 = .ok (.i2l, 1) := eX12_next_145.2.2.2.2.2.1
theorem dX12_next_155 : decode cX12_next 155 = .ok (.ladd, 1) := eX12_next_145.2.2.2.2.2.2.1
theorem dX12_next_156 : decode cX12_next 156 = .ok (.ldc2_w 121, 3) := eX12_next_145.2.2.2.2.2.2.2.1
theorem eX12_next_159 : decode cX12_next 159 = .ok (.lsub, 1) ∧ decode cX12_next 160 = .ok (.goto 6, 3) ∧ decode cX12_next 163 = .ok (.ldc2_w 90, 3) ∧ decode cX12_next 166 = .ok (.putfield 116, 3) ∧ decode cX12_next 169 = .ok (.aload_n 0, 1) ∧ decode cX12_next 170 = .ok (.dup, 1) ∧ decode cX12_next 171 = .ok (.getfield 101, 3) ∧ decode cX12_next 174 = .ok (.iconst 1, 1) ∧ True := dkl_ok (c := cX12_next) [(.lsub, 1), (.goto 6, 3), (.ldc2_w 90, 3), (.putfield 116, 3), (.aload_n 0, 1), (.dup, 1), (.getfield 101, 3), (.iconst 1, 1)] 159 (by decide +kernel)
theorem dX12_next_159 : decode cX12_next 159 = .ok (.lsub, 1) := eX12_next_159.1
theorem dX12_next_160 : decode cX12_next 160 = .ok (.goto 6, 3) := eX12_next_159.2.1
theorem dX12_next_163 : decode cX12_next 163 = .ok (.ldc2_w 90, 3) := eX12_next_159.2.2.1
theorem dX12_next_166 : decode cX12_next 166 = .ok (.putfield 116, 3) := eX12_next_159.2.2.2.1
theorem dX12_next_169 : decode cX12_next 169 = .ok (.aload_n 0, 1) := eX12_next_159.2.2.2.2.1
theorem dX12_next_170 : decode cX12_next 170 = .ok (.dup, 1) := eX12_next_159.2.2.2.2.2.1
theorem dX12_next_171 : decode cX12_next 171 = .ok (.getfield 101, 3) := eX12_next_159.2.2.2.2.2.2.1
theorem dX12_next_174 : decode cX12_next 174 = .ok (.iconst 1, 1) := eX12_next_159.2.2.2.2.2.2.2.1
theorem eX12_next_175 : decode cX12_next 175 = .ok (.iadd, 1) ∧ decode cX12_next 176 = .ok (.putfield 101, 3) ∧ decode cX12_next 179 = .ok (.goto (-70), 3) ∧ decode cX12_next 182 = .ok (.aload_n 0, 1) ∧ decode cX12_next 183 = .ok (.aload_n 0, 1) ∧ decode cX12_next 184 = .ok (.getfield 101, 3) ∧ decode cX12_next 187 = .ok (.aload_n 0, 1) ∧ decode cX12_next 188 = .ok (.getfield 104, 3) ∧ True := dkl_ok (c := cX12_next) [(.iadd, 1), (.putfield 101, 3), (.goto (-70), 3), (.aload_n 0, 1), (.aload_n 0, 1), (.getfield 101, 3), (.aload_n 0, 1), (.getfield 104, 3)] 175 (by decide +kernel)
theorem dX12_next_175 : decode cX12_next 175 = .ok (.iadd, 1) := eX12_next_175.1
theorem dX12_next_176 : decode cX12_next 176 = .ok (.putfield 101, 3) := eX12_next_175.2.1
theorem dX12_next_179 : decode cX12_next 179 = .ok (.goto (-70), 3) := eX12_next_175.2.2.1
theorem dX12_next_182 : decode cX12_next 182 = .ok (.aload_n 0, 1) := eX12_next_175.2.2.2.1
theorem dX12_next_183 : decode cX12_next 183 = .ok (.aload_n 0, 1) := eX12_next_175.2.2.2.2.1
theorem dX12_next_184 : decode cX12_next 184 = .ok (.getfield 101, 3) := eX12_next_175.2.2.2.2.2.1
theorem dX12_next_187 : decode cX12_next 187 = .ok (.aload_n 0, 1) := eX12_next_175.2.2.2.2.2.2.1
theorem dX12_next_188 : decode cX12_next 188 = .ok (.getfield 104, 3) := eX12_next_175.2.2.2.2.2.2.2.1
theorem eX12_next_191 : decode cX12_next 191 = .ok (.isub, 1) ∧ decode cX12_next 192 = .ok (.putfield 123, 3) ∧ decode cX12_next 195 = .ok (.goto 135, 3) ∧ decode cX12_next 198 = .ok (.iload_n 1, 1) ∧ decode cX12_next 199 = .ok (.invokestatic 126, 3) ∧ decode cX12_next 202 = .ok (.ifCond .eq 96, 3) ∧ decode cX12_next 205 = .ok (.aload_n 0, 1) ∧ decode cX12_next 206 = .ok (.iconst 0, 1) ∧ True := dkl_ok (c := cX12_next) [(.isub, 1), (.putfield 123, 3), (.goto 135, 3), (.iload_n 1, 1), (.invokestatic 126, 3), (.ifCond .eq 96, 3), (.aload_n 0, 1), (.iconst 0, 1)] 191 (by decide +kernel)
theorem dX12_next_191 : decode cX12_next 191 = .ok (.isub, 1) := eX12_next_191.1
theorem dX12_next_192 : decode cX12_next 192 = .ok (.putfield 123, 3) := eX12_next_191.2.1
theorem dX12_next_195 : decode cX12_next 195 = .ok (.goto 135, 3) := eX12_next_191.2.2.1
theorem dX12_next_198 : decode cX12_next 198 = .ok (.iload_n 1, 1) := eX12_next_191.2.2.2.1
theorem dX12_next_199 : decode cX12_next 199 = .ok (.invokestatic 126, 3) := eX12_next_191.2.2.2.2.1
theorem dX12_next_202 : decode cX12_next 202 = .ok (.ifCond .eq 96, 3) := eX12_next_191.2.2.2.2.2.1
theorem dX12_next_205 : decode cX12_next 205 = .ok (.aload_n 0, 1) := eX12_next_191.2.2.2.2.2.2.1
theorem dX12_next_206 : decode cX12_next 206 = .ok (.iconst 0, 1) := eX12_next_191.2.2.2.2.2.2.2.1
theorem eX12_next_207 : decode cX12_next 207 = .ok (.putfield 129, 3) ∧ decode cX12_next 210 = .ok (.aload_n 0, 1) ∧ decode cX12_next 211 = .ok (.aload_n 0, 1) ∧ decode cX12_next 212 = .ok (.getfield 101, 3) ∧ True := dkl_ok (c := cX12_next) [(.putfield 129, 3), (.aload_n 0, 1), (.aload_n 0, 1), (.getfield 101, 3)] 207 (by decide +kernel)
theorem dX12_next_207 : decode cX12_next 207 = .ok (.putfield 129, 3) := eX12_next_207.1
theorem dX12_next_210 : decode cX12_next 210 = .ok (.aload_n 0, 1) := eX12_next_207.2.1
theorem dX12_next_211 : decode cX12_next 211 = .ok (.aload_n 0, 1) := eX12_next_207.2.2.1
theorem dX12_next_212 : decode cX12_next 212 = .ok (.getfield 101, 3) := eX12_next_207.2.2.2.1
