/-! FROM 01.d3.lean.txt -/
section
theorem eX12_waitsOf_1 : decode cX12_waitsOf 1 = .ok (.getfield 35, 3) ∧ decode cX12_waitsOf 4 = .ok (.bipush 7, 2) ∧ decode cX12_waitsOf 6 = .ok (.iaload, 1) ∧ decode cX12_waitsOf 7 = .ok (.iconst 1, 1) ∧ decode cX12_waitsOf 8 = .ok (.if_icmp .ne 17, 3) ∧ decode cX12_waitsOf 11 = .ok (.aload_n 0, 1) ∧ decode cX12_waitsOf 12 = .ok (.aload_n 0, 1) ∧ decode cX12_waitsOf 13 = .ok (.getfield 35, 3) ∧ True := dkl_ok (c := cX12_waitsOf) [(.getfield 35, 3), (.bipush 7, 2), (.iaload, 1), (.iconst 1, 1), (.if_icmp .ne 17, 3), (.aload_n 0, 1), (.aload_n 0, 1), (.getfield 35, 3)] 1 (by decide +kernel)
theorem dX12_waitsOf_1 : decode cX12_waitsOf 1 = .ok (.getfield 35, 3) := eX12_waitsOf_1.1
theorem dX12_waitsOf_4 : decode cX12_waitsOf 4 = .ok (.bipush 7, 2) := eX12_waitsOf_1.2.1
theorem dX12_waitsOf_6 : decode cX12_waitsOf 6 = .ok (.iaload, 1) := eX12_waitsOf_1.2.2.1
theorem dX12_waitsOf_7 : decode cX12_waitsOf 7 = .ok (.iconst 1, 1) := eX12_waitsOf_1.2.2.2.1
theorem dX12_waitsOf_8 : decode cX12_waitsOf 8 = .ok (.if_icmp .ne 17, 3) := eX12_waitsOf_1.2.2.2.2.1
theorem dX12_waitsOf_11 : decode cX12_waitsOf 11 = .ok (.aload_n 0, 1) := eX12_waitsOf_1.2.2.2.2.2.1
theorem dX12_waitsOf_12 : decode cX12_waitsOf 12 = .ok (.aload_n 0, 1) := eX12_waitsOf_1.2.2.2.2.2.2.1
theorem dX12_waitsOf_13 : decode cX12_waitsOf 13 = .ok (.getfield 35, 3) := eX12_waitsOf_1.2.2.2.2.2.2.2.1
theorem eX12_waitsOf_16 : decode cX12_waitsOf 16 = .ok (.bipush 6, 2) ∧ decode cX12_waitsOf 18 = .ok (.iaload, 1) ∧ decode cX12_waitsOf 19 = .ok (.invokevirtual 319, 3) ∧ decode cX12_waitsOf 22 = .ok (.goto 10, 3) ∧ decode cX12_waitsOf 25 = .ok (.aload_n 0, 1) ∧ decode cX12_waitsOf 26 = .ok (.getfield 35, 3) ∧ decode cX12_waitsOf 29 = .ok (.bipush 6, 2) ∧ decode cX12_waitsOf 31 = .ok (.iaload, 1) ∧ True := dkl_ok (c := cX12_waitsOf) [(.bipush 6, 2), (.iaload, 1), (.invokevirtual 319, 3), (.goto 10, 3), (.aload_n 0, 1), (.getfield 35, 3), (.bipush 6, 2), (.iaload, 1)] 16 (by decide +kernel)
theorem dX12_waitsOf_16 : decode cX12_waitsOf 16 = .ok (.bipush 6, 2) := eX12_waitsOf_16.1
theorem dX12_waitsOf_18 : decode cX12_waitsOf 18 = .ok (.iaload, 1) := eX12_waitsOf_16.2.1
theorem dX12_waitsOf_19 : decode cX12_waitsOf 19 = .ok (.invokevirtual 319, 3) := eX12_waitsOf_16.2.2.1
theorem dX12_waitsOf_22 : decode cX12_waitsOf 22 = .ok (.goto 10, 3) := eX12_waitsOf_16.2.2.2.1
theorem dX12_waitsOf_25 : decode cX12_waitsOf 25 = .ok (.aload_n 0, 1) := eX12_waitsOf_16.2.2.2.2.1
theorem dX12_waitsOf_26 : decode cX12_waitsOf 26 = .ok (.getfield 35, 3) := eX12_waitsOf_16.2.2.2.2.2.1
theorem dX12_waitsOf_29 : decode cX12_waitsOf 29 = .ok (.bipush 6, 2) := eX12_waitsOf_16.2.2.2.2.2.2.1
theorem dX12_waitsOf_31 : decode cX12_waitsOf 31 = .ok (.iaload, 1) := eX12_waitsOf_16.2.2.2.2.2.2.2.1
theorem eX12_waitsOf_32 : decode cX12_waitsOf 32 = .ok (.istore_n 2, 1) ∧ decode cX12_waitsOf 33 = .ok (.iload_n 1, 1) ∧ decode cX12_waitsOf 34 = .ok (.iload_n 2, 1) ∧ decode cX12_waitsOf 35 = .ok (.isub, 1) ∧ decode cX12_waitsOf 36 = .ok (.aload_n 0, 1) ∧ decode cX12_waitsOf 37 = .ok (.getfield 35, 3) ∧ decode cX12_waitsOf 40 = .ok (.iconst 2, 1) ∧ decode cX12_waitsOf 41 = .ok (.iaload, 1) ∧ True := dkl_ok (c := cX12_waitsOf) [(.istore_n 2, 1), (.iload_n 1, 1), (.iload_n 2, 1), (.isub, 1), (.aload_n 0, 1), (.getfield 35, 3), (.iconst 2, 1), (.iaload, 1)] 32 (by decide +kernel)
theorem dX12_waitsOf_32 : decode cX12_waitsOf 32 = .ok (.istore_n 2, 1) := eX12_waitsOf_32.1
theorem dX12_waitsOf_33 : decode cX12_waitsOf 33 = .ok (.iload_n 1, 1) := eX12_waitsOf_32.2.1
theorem dX12_waitsOf_34 : decode cX12_waitsOf 34 = .ok (.iload_n 2, 1) := eX12_waitsOf_32.2.2.1
theorem dX12_waitsOf_35 : decode cX12_waitsOf 35 = .ok (.isub, 1) := eX12_waitsOf_32.2.2.2.1
theorem dX12_waitsOf_36 : decode cX12_waitsOf 36 = .ok (.aload_n 0, 1) := eX12_waitsOf_32.2.2.2.2.1
theorem dX12_waitsOf_37 : decode cX12_waitsOf 37 = .ok (.getfield 35, 3) := eX12_waitsOf_32.2.2.2.2.2.1
theorem dX12_waitsOf_40 : decode cX12_waitsOf 40 = .ok (.iconst 2, 1) := eX12_waitsOf_32.2.2.2.2.2.2.1
theorem dX12_waitsOf_41 : decode cX12_waitsOf 41 = .ok (.iaload, 1) := eX12_waitsOf_32.2.2.2.2.2.2.2.1
theorem eX12_waitsOf_42 : decode cX12_waitsOf 42 = .ok (.iadd, 1) ∧ decode cX12_waitsOf 43 = .ok (.aload_n 0, 1) ∧ decode cX12_waitsOf 44 = .ok (.getfield 35, 3) ∧ decode cX12_waitsOf 47 = .ok (.iconst 2, 1) ∧ decode cX12_waitsOf 48 = .ok (.iaload, 1) ∧ decode cX12_waitsOf 49 = .ok (.irem, 1) ∧ decode cX12_waitsOf 50 = .ok (.ireturn, 1) ∧ True := dkl_ok (c := cX12_waitsOf) [(.iadd, 1), (.aload_n 0, 1), (.getfield 35, 3), (.iconst 2, 1), (.iaload, 1), (.irem, 1), (.ireturn, 1)] 42 (by decide +kernel)
theorem dX12_waitsOf_42 : decode cX12_waitsOf 42 = .ok (.iadd, 1) := eX12_waitsOf_42.1
theorem dX12_waitsOf_43 : decode cX12_waitsOf 43 = .ok (.aload_n 0, 1) := eX12_waitsOf_42.2.1
theorem dX12_waitsOf_44 : decode cX12_waitsOf 44 = .ok (.getfield 35, 3) := eX12_waitsOf_42.2.2.1
theorem dX12_waitsOf_47 : decode cX12_waitsOf 47 = .ok (.iconst 2, 1) := eX12_waitsOf_42.2.2.2.1
theorem dX12_waitsOf_48 : decode cX12_waitsOf 48 = .ok (.iaload, 1) := eX12_waitsOf_42.2.2.2.2.1
theorem dX12_waitsOf_49 : decode cX12_waitsOf 49 = .ok (.irem, 1) := eX12_waitsOf_42.2.2.2.2.2.1
theorem dX12_waitsOf_50 : decode cX12_waitsOf 50 = .ok (.ireturn, 1) := eX12_waitsOf_42.2.2.2.2.2.2.1
theorem eX12_waits_0 : decode cX12_waits 0 = .ok (.aload_n 0, 1) ∧ decode cX12_waits 1 = .ok (.iconst 0, 1) ∧ decode cX12_waits 2 = .ok (.putfield 59, 3) ∧ decode cX12_waits 5 = .ok (.aload_n 0, 1) ∧ decode cX12_waits 6 = .ok (.iconst 0, 1) ∧ decode cX12_waits 7 = .ok (.putfield 62, 3) ∧ decode cX12_waits 10 = .ok (.aload_n 0, 1) ∧ decode cX12_waits 11 = .ok (.iload_n 1, 1) ∧ True := dkl_ok (c := cX12_waits) [(.aload_n 0, 1), (.iconst 0, 1), (.putfield 59, 3), (.aload_n 0, 1), (.iconst 0, 1), (.putfield 62, 3), (.aload_n 0, 1), (.iload_n 1, 1)] 0 (by decide +kernel)
theorem dX12_waits_0 : decode cX12_waits 0 = .ok (.aload_n 0, 1) := eX12_waits_0.1
theorem dX12_waits_1 : decode cX12_waits 1 = .ok (.iconst 0, 1) := eX12_waits_0.2.1
theorem dX12_waits_2 : decode cX12_waits 2 = .ok (.putfield 59, 3) := eX12_waits_0.2.2.1
theorem dX12_waits_5 : decode cX12_waits 5 = .ok (.aload_n 0, 1) := eX12_waits_0.2.2.2.1
theorem dX12_waits_6 : decode cX12_waits 6 = .ok (.iconst 0, 1) := eX12_waits_0.2.2.2.2.1
theorem dX12_waits_7 : decode cX12_waits 7 = .ok (.putfield 62, 3) := eX12_waits_0.2.2.2.2.2.1
theorem dX12_waits_10 : decode cX12_waits 10 = .ok (.aload_n 0, 1) := eX12_waits_0.2.2.2.2.2.2.1
theorem dX12_waits_11 : decode cX12_waits 11 = .ok (.iload_n 1, 1) := eX12_waits_0.2.2.2.2.2.2.2.1
theorem eX12_waits_12 : decode cX12_waits 12 = .ok (.invokevirtual 290, 3) ∧ decode cX12_waits 15 = .ok (.ifCond .eq 11, 3) ∧ decode cX12_waits 18 = .ok (.aload_n 0, 1) ∧ decode cX12_waits 19 = .ok (.iload_n 1, 1) ∧ decode cX12_waits 20 = .ok (.invokevirtual 367, 3) ∧ decode cX12_waits 23 = .ok (.goto 8, 3) ∧ decode cX12_waits 26 = .ok (.aload_n 0, 1) ∧ decode cX12_waits 27 = .ok (.iconst 2, 1) ∧ True := dkl_ok (c := cX12_waits) [(.invokevirtual 290, 3), (.ifCond .eq 11, 3), (.aload_n 0, 1), (.iload_n 1, 1), (.invokevirtual 367, 3), (.goto 8, 3), (.aload_n 0, 1), (.iconst 2, 1)] 12 (by decide +kernel)
theorem dX12_waits_12 : decode cX12_waits 12 = .ok (.invokevirtual 290, 3) := eX12_waits_12.1
theorem dX12_waits_15 : decode cX12_waits 15 = .ok (.ifCond .eq 11, 3) := eX12_waits_12.2.1
theorem dX12_waits_18 : decode cX12_waits 18 = .ok (.aload_n 0, 1) := eX12_waits_12.2.2.1
theorem dX12_waits_19 : decode cX12_waits 19 = .ok (.iload_n 1, 1) := eX12_waits_12.2.2.2.1
theorem dX12_waits_20 : decode cX12_waits 20 = .ok (.invokevirtual 367, 3) := eX12_waits_12.2.2.2.2.1
theorem dX12_waits_23 : decode cX12_waits 23 = .ok (.goto 8, 3) := eX12_waits_12.2.2.2.2.2.1
theorem dX12_waits_26 : decode cX12_waits 26 = .ok (.aload_n 0, 1) := eX12_waits_12.2.2.2.2.2.2.1
theorem dX12_waits_27 : decode cX12_waits 27 = .ok (.iconst 2, 1) := eX12_waits_12.2.2.2.2.2.2.2.1
theorem eX12_waits_28 : decode cX12_waits 28 = .ok (.invokevirtual 284, 3) ∧ decode cX12_waits 31 = .ok (.ireturn, 1) ∧ True := dkl_ok (c := cX12_waits) [(.invokevirtual 284, 3), (.ireturn, 1)] 28 (by decide +kernel)
theorem dX12_waits_28 : decode cX12_waits 28 = .ok (.invokevirtual 284, 3) := eX12_waits_28.1
theorem dX12_waits_31 : decode cX12_waits 31 = .ok (.ireturn, 1) := eX12_waits_28.2.1
theorem eX12_fallsTo_0 : decode cX12_fallsTo 0 = .ok (.aload_n 0, 1) ∧ decode cX12_fallsTo 1 = .ok (.getfield 35, 3) ∧ decode cX12_fallsTo 4 = .ok (.bipush 7, 2) ∧ decode cX12_fallsTo 6 = .ok (.iaload, 1) ∧ decode cX12_fallsTo 7 = .ok (.iconst 1, 1) ∧ decode cX12_fallsTo 8 = .ok (.if_icmp .ne 11, 3) ∧ decode cX12_fallsTo 11 = .ok (.aload_n 0, 1) ∧ decode cX12_fallsTo 12 = .ok (.iconst 1, 1) ∧ True := dkl_ok (c := cX12_fallsTo) [(.aload_n 0, 1), (.getfield 35, 3), (.bipush 7, 2), (.iaload, 1), (.iconst 1, 1), (.if_icmp .ne 11, 3), (.aload_n 0, 1), (.iconst 1, 1)] 0 (by decide +kernel)
theorem dX12_fallsTo_0 : decode cX12_fallsTo 0 = .ok (.aload_n 0, 1) := eX12_fallsTo_0.1
theorem dX12_fallsTo_1 : decode cX12_fallsTo 1 = .ok (.getfield 35, 3) := eX12_fallsTo_0.2.1
theorem dX12_fallsTo_4 : decode cX12_fallsTo 4 = .ok (.bipush 7, 2) := eX12_fallsTo_0.2.2.1
theorem dX12_fallsTo_6 : decode cX12_fallsTo 6 = .ok (.iaload, 1) := eX12_fallsTo_0.2.2.2.1
theorem dX12_fallsTo_7 : decode cX12_fallsTo 7 = .ok (.iconst 1, 1) := eX12_fallsTo_0.2.2.2.2.1
theorem dX12_fallsTo_8 : decode cX12_fallsTo 8 = .ok (.if_icmp .ne 11, 3) := eX12_fallsTo_0.2.2.2.2.2.1
theorem dX12_fallsTo_11 : decode cX12_fallsTo 11 = .ok (.aload_n 0, 1) := eX12_fallsTo_0.2.2.2.2.2.2.1
theorem dX12_fallsTo_12 : decode cX12_fallsTo 12 = .ok (.iconst 1, 1) := eX12_fallsTo_0.2.2.2.2.2.2.2.1
theorem eX12_fallsTo_13 : decode cX12_fallsTo 13 = .ok (.invokevirtual 315, 3) ∧ decode cX12_fallsTo 16 = .ok (.goto 9, 3) ∧ decode cX12_fallsTo 19 = .ok (.aload_n 0, 1) ∧ decode cX12_fallsTo 20 = .ok (.getfield 35, 3) ∧ decode cX12_fallsTo 23 = .ok (.iconst 5, 1) ∧ decode cX12_fallsTo 24 = .ok (.iaload, 1) ∧ decode cX12_fallsTo 25 = .ok (.istore_n 3, 1) ∧ decode cX12_fallsTo 26 = .ok (.aload_n 0, 1) ∧ True := dkl_ok (c := cX12_fallsTo) [(.invokevirtual 315, 3), (.goto 9, 3), (.aload_n 0, 1), (.getfield 35, 3), (.iconst 5, 1), (.iaload, 1), (.istore_n 3, 1), (.aload_n 0, 1)] 13 (by decide +kernel)
theorem dX12_fallsTo_13 : decode cX12_fallsTo 13 = .ok (.invokevirtual 315, 3) := eX12_fallsTo_13.1
theorem dX12_fallsTo_16 : decode cX12_fallsTo 16 = .ok (.goto 9, 3) := eX12_fallsTo_13.2.1
theorem dX12_fallsTo_19 : decode cX12_fallsTo 19 = .ok (.aload_n 0, 1) := eX12_fallsTo_13.2.2.1
theorem dX12_fallsTo_20 : decode cX12_fallsTo 20 = .ok (.getfield 35, 3) := eX12_fallsTo_13.2.2.2.1
theorem dX12_fallsTo_23 : decode cX12_fallsTo 23 = .ok (.iconst 5, 1) := eX12_fallsTo_13.2.2.2.2.1
theorem dX12_fallsTo_24 : decode cX12_fallsTo 24 = .ok (.iaload, 1) := eX12_fallsTo_13.2.2.2.2.2.1
theorem dX12_fallsTo_25 : decode cX12_fallsTo 25 = .ok (.istore_n 3, 1) := eX12_fallsTo_13.2.2.2.2.2.2.1
theorem dX12_fallsTo_26 : decode cX12_fallsTo 26 = .ok (.aload_n 0, 1) := eX12_fallsTo_13.2.2.2.2.2.2.2.1
theorem eX12_fallsTo_27 : decode cX12_fallsTo 27 = .ok (.iload_n 1, 1) ∧ decode cX12_fallsTo 28 = .ok (.invokevirtual 367, 3) ∧ decode cX12_fallsTo 31 = .ok (.iload_n 2, 1) ∧ decode cX12_fallsTo 32 = .ok (.aload_n 0, 1) ∧ decode cX12_fallsTo 33 = .ok (.getfield 35, 3) ∧ decode cX12_fallsTo 36 = .ok (.iconst 2, 1) ∧ decode cX12_fallsTo 37 = .ok (.iaload, 1) ∧ decode cX12_fallsTo 38 = .ok (.imul, 1) ∧ True := dkl_ok (c := cX12_fallsTo) [(.iload_n 1, 1), (.invokevirtual 367, 3), (.iload_n 2, 1), (.aload_n 0, 1), (.getfield 35, 3), (.iconst 2, 1), (.iaload, 1), (.imul, 1)] 27 (by decide +kernel)
theorem dX12_fallsTo_27 : decode cX12_fallsTo 27 = .ok (.iload_n 1, 1) := eX12_fallsTo_27.1
theorem dX12_fallsTo_28 : decode cX12_fallsTo 28 = .ok (.invokevirtual 367, 3) := eX12_fallsTo_27.2.1
theorem dX12_fallsTo_31 : decode cX12_fallsTo 31 = .ok (.iload_n 2, 1) := eX12_fallsTo_27.2.2.1
theorem dX12_fallsTo_32 : decode cX12_fallsTo 32 = .ok (.aload_n 0, 1) := eX12_fallsTo_27.2.2.2.1
theorem dX12_fallsTo_33 : decode cX12_fallsTo 33 = .ok (.getfield 35, 3) := eX12_fallsTo_27.2.2.2.2.1
theorem dX12_fallsTo_36 : decode cX12_fallsTo 36 = .ok (.iconst 2, 1) := eX12_fallsTo_27.2.2.2.2.2.1
theorem dX12_fallsTo_37 : decode cX12_fallsTo 37 = .ok (.iaload, 1) := eX12_fallsTo_27.2.2.2.2.2.2.1
theorem dX12_fallsTo_38 : decode cX12_fallsTo 38 = .ok (.imul, 1) := eX12_fallsTo_27.2.2.2.2.2.2.2.1
theorem eX12_fallsTo_39 : decode cX12_fallsTo 39 = .ok (.iadd, 1) ∧ decode cX12_fallsTo 40 = .ok (.aload_n 0, 1) ∧ decode cX12_fallsTo 41 = .ok (.getfield 35, 3) ∧ decode cX12_fallsTo 44 = .ok (.iconst 0, 1) ∧ decode cX12_fallsTo 45 = .ok (.iaload, 1) ∧ decode cX12_fallsTo 46 = .ok (.irem, 1) ∧ decode cX12_fallsTo 47 = .ok (.istore 4, 2) ∧ decode cX12_fallsTo 49 = .ok (.aload_n 0, 1) ∧ True := dkl_ok (c := cX12_fallsTo) [(.iadd, 1), (.aload_n 0, 1), (.getfield 35, 3), (.iconst 0, 1), (.iaload, 1), (.irem, 1), (.istore 4, 2), (.aload_n 0, 1)] 39 (by decide +kernel)
theorem dX12_fallsTo_39 : decode cX12_fallsTo 39 = .ok (.iadd, 1) := eX12_fallsTo_39.1
theorem dX12_fallsTo_40 : decode cX12_fallsTo 40 = .ok (.aload_n 0, 1) := eX12_fallsTo_39.2.1
theorem dX12_fallsTo_41 : decode cX12_fallsTo 41 = .ok (.getfield 35, 3) := eX12_fallsTo_39.2.2.1
theorem dX12_fallsTo_44 : decode cX12_fallsTo 44 = .ok (.iconst 0, 1) := eX12_fallsTo_39.2.2.2.1
theorem dX12_fallsTo_45 : decode cX12_fallsTo 45 = .ok (.iaload, 1) := eX12_fallsTo_39.2.2.2.2.1
theorem dX12_fallsTo_46 : decode cX12_fallsTo 46 = .ok (.irem, 1) := eX12_fallsTo_39.2.2.2.2.2.1
theorem dX12_fallsTo_47 : decode cX12_fallsTo 47 = .ok (.istore 4, 2) := eX12_fallsTo_39.2.2.2.2.2.2.1
theorem dX12_fallsTo_49 : decode cX12_fallsTo 49 = .ok (.aload_n 0, 1) := eX12_fallsTo_39.2.2.2.2.2.2.2.1
theorem eX12_fallsTo_50 : decode cX12_fallsTo 50 = .ok (.getfield 35, 3) ∧ decode cX12_fallsTo 53 = .ok (.iconst 3, 1) ∧ decode cX12_fallsTo 54 = .ok (.iaload, 1) ∧ decode cX12_fallsTo 55 = .ok (.ifCond .ne 17, 3) ∧ decode cX12_fallsTo 58 = .ok (.iload_n 3, 1) ∧ decode cX12_fallsTo 59 = .ok (.iload 4, 2) ∧ decode cX12_fallsTo 61 = .ok (.iadd, 1) ∧ decode cX12_fallsTo 62 = .ok (.aload_n 0, 1) ∧ True := dkl_ok (c := cX12_fallsTo) [(.getfield 35, 3), (.iconst 3, 1), (.iaload, 1), (.ifCond .ne 17, 3), (.iload_n 3, 1), (.iload 4, 2), (.iadd, 1), (.aload_n 0, 1)] 50 (by decide +kernel)
theorem dX12_fallsTo_50 : decode cX12_fallsTo 50 = .ok (.getfield 35, 3) := eX12_fallsTo_50.1
theorem dX12_fallsTo_53 : decode cX12_fallsTo 53 = .ok (.iconst 3, 1) := eX12_fallsTo_50.2.1
theorem dX12_fallsTo_54 : decode cX12_fallsTo 54 = .ok (.iaload, 1) := eX12_fallsTo_50.2.2.1
theorem dX12_fallsTo_55 : decode cX12_fallsTo 55 = .ok (.ifCond .ne 17, 3) := eX12_fallsTo_50.2.2.2.1
theorem dX12_fallsTo_58 : decode cX12_fallsTo 58 = .ok (.iload_n 3, 1) := eX12_fallsTo_50.2.2.2.2.1
theorem dX12_fallsTo_59 : decode cX12_fallsTo 59 = .ok (.iload 4, 2) := eX12_fallsTo_50.2.2.2.2.2.1
theorem dX12_fallsTo_61 : decode cX12_fallsTo 61 = .ok (.iadd, 1) := eX12_fallsTo_50.2.2.2.2.2.2.1
theorem dX12_fallsTo_62 : decode cX12_fallsTo 62 = .ok (.aload_n 0, 1) := eX12_fallsTo_50.2.2.2.2.2.2.2.1
theorem eX12_fallsTo_63 : decode cX12_fallsTo 63 = .ok (.getfield 35, 3) ∧ decode cX12_fallsTo 66 = .ok (.iconst 0, 1) ∧ decode cX12_fallsTo 67 = .ok (.iaload, 1) ∧ decode cX12_fallsTo 68 = .ok (.irem, 1) ∧ decode cX12_fallsTo 69 = .ok (.goto 35, 3) ∧ decode cX12_fallsTo 72 = .ok (.aload_n 0, 1) ∧ decode cX12_fallsTo 73 = .ok (.getfield 35, 3) ∧ decode cX12_fallsTo 76 = .ok (.iconst 3, 1) ∧ True := dkl_ok (c := cX12_fallsTo) [(.getfield 35, 3), (.iconst 0, 1), (.iaload, 1), (.irem, 1), (.goto 35, 3), (.aload_n 0, 1), (.getfield 35, 3), (.iconst 3, 1)] 63 (by decide +kernel)
theorem dX12_fallsTo_63 : decode cX12_fallsTo 63 = .ok (.getfield 35, 3) := eX12_fallsTo_63.1
theorem dX12_fallsTo_66 : decode cX12_fallsTo 66 = .ok (.iconst 0, 1) := eX12_fallsTo_63.2.1
theorem dX12_fallsTo_67 : decode cX12_fallsTo 67 = .ok (.iaload, 1) := eX12_fallsTo_63.2.2.1
theorem dX12_fallsTo_68 : decode cX12_fallsTo 68 = .ok (.irem, 1) := eX12_fallsTo_63.2.2.2.1
theorem dX12_fallsTo_69 : decode cX12_fallsTo 69 = .ok (.goto 35, 3) := eX12_fallsTo_63.2.2.2.2.1
theorem dX12_fallsTo_72 : decode cX12_fallsTo 72 = .ok (.aload_n 0, 1) := eX12_fallsTo_63.2.2.2.2.2.1
theorem dX12_fallsTo_73 : decode cX12_fallsTo 73 = .ok (.getfield 35, 3) := eX12_fallsTo_63.2.2.2.2.2.2.1
theorem dX12_fallsTo_76 : decode cX12_fallsTo 76 = .ok (.iconst 3, 1) := eX12_fallsTo_63.2.2.2.2.2.2.2.1
theorem eX12_fallsTo_77 : decode cX12_fallsTo 77 = .ok (.iaload, 1) ∧ decode cX12_fallsTo 78 = .ok (.iconst 1, 1) ∧ decode cX12_fallsTo 79 = .ok (.if_icmp .ne 24, 3) ∧ decode cX12_fallsTo 82 = .ok (.iload_n 3, 1) ∧ decode cX12_fallsTo 83 = .ok (.aload_n 0, 1) ∧ decode cX12_fallsTo 84 = .ok (.getfield 35, 3) ∧ decode cX12_fallsTo 87 = .ok (.iconst 0, 1) ∧ decode cX12_fallsTo 88 = .ok (.iaload, 1) ∧ True := dkl_ok (c := cX12_fallsTo) [(.iaload, 1), (.iconst 1, 1), (.if_icmp .ne 24, 3), (.iload_n 3, 1), (.aload_n 0, 1), (.getfield 35, 3), (.iconst 0, 1), (.iaload, 1)] 77 (by decide +kernel)
theorem dX12_fallsTo_77 : decode cX12_fallsTo 77 = .ok (.iaload, 1) := eX12_fallsTo_77.1
theorem dX12_fallsTo_78 : decode cX12_fallsTo 78 = .ok (.iconst 1, 1) := eX12_fallsTo_77.2.1
theorem dX12_fallsTo_79 : decode cX12_fallsTo 79 = .ok (.if_icmp .ne 24, 3) := eX12_fallsTo_77.2.2.1
theorem dX12_fallsTo_82 : decode cX12_fallsTo 82 = .ok (.iload_n 3, 1) := eX12_fallsTo_77.2.2.2.1
theorem dX12_fallsTo_83 : decode cX12_fallsTo 83 = .ok (.aload_n 0, 1) := eX12_fallsTo_77.2.2.2.2.1
theorem dX12_fallsTo_84 : decode cX12_fallsTo 84 = .ok (.getfield 35, 3) := eX12_fallsTo_77.2.2.2.2.2.1
theorem dX12_fallsTo_87 : decode cX12_fallsTo 87 = .ok (.iconst 0, 1) := eX12_fallsTo_77.2.2.2.2.2.2.1
theorem dX12_fallsTo_88 : decode cX12_fallsTo 88 = .ok (.iaload, 1) := eX12_fallsTo_77.2.2.2.2.2.2.2.1
theorem eX12_fallsTo_89 : decode cX12_fallsTo 89 = .ok (.iadd, 1) ∧ decode cX12_fallsTo 90 = .ok (.iload 4, 2) ∧ decode cX12_fallsTo 92 = .ok (.isub, 1) ∧ decode cX12_fallsTo 93 = .ok (.aload_n 0, 1) ∧ decode cX12_fallsTo 94 = .ok (.getfield 35, 3) ∧ decode cX12_fallsTo 97 = .ok (.iconst 0, 1) ∧ decode cX12_fallsTo 98 = .ok (.iaload, 1) ∧ decode cX12_fallsTo 99 = .ok (.irem, 1) ∧ True := dkl_ok (c := cX12_fallsTo) [(.iadd, 1), (.iload 4, 2), (.isub, 1), (.aload_n 0, 1), (.getfield 35, 3), (.iconst 0, 1), (.iaload, 1), (.irem, 1)] 89 (by decide +kernel)
theorem dX12_fallsTo_89 : decode cX12_fallsTo 89 = .ok (.iadd, 1) := eX12_fallsTo_89.1
theorem dX12_fallsTo_90 : decode cX12_fallsTo 90 = .ok (.iload 4, 2) := eX12_fallsTo_89.2.1
theorem dX12_fallsTo_92 : decode cX12_fallsTo 92 = .ok (.isub, 1) := eX12_fallsTo_89.2.2.1
theorem dX12_fallsTo_93 : decode cX12_fallsTo 93 = .ok (.aload_n 0, 1) := eX12_fallsTo_89.2.2.2.1
theorem dX12_fallsTo_94 : decode cX12_fallsTo 94 = .ok (.getfield 35, 3) := eX12_fallsTo_89.2.2.2.2.1
theorem dX12_fallsTo_97 : decode cX12_fallsTo 97 = .ok (.iconst 0, 1) := eX12_fallsTo_89.2.2.2.2.2.1
theorem dX12_fallsTo_98 : decode cX12_fallsTo 98 = .ok (.iaload, 1) := eX12_fallsTo_89.2.2.2.2.2.2.1
theorem dX12_fallsTo_99 : decode cX12_fallsTo 99 = .ok (.irem, 1) := eX12_fallsTo_89.2.2.2.2.2.2.2.1
theorem eX12_fallsTo_100 : decode cX12_fallsTo 100 = .ok (.goto 4, 3) ∧ decode cX12_fallsTo 103 = .ok (.iload_n 3, 1) ∧ decode cX12_fallsTo 104 = .ok (.ireturn, 1) ∧ True := dkl_ok (c := cX12_fallsTo) [(.goto 4, 3), (.iload_n 3, 1), (.ireturn, 1)] 100 (by decide +kernel)
theorem dX12_fallsTo_100 : decode cX12_fallsTo 100 = .ok (.goto 4, 3) := eX12_fallsTo_100.1
theorem dX12_fallsTo_103 : decode cX12_fallsTo 103 = .ok (.iload_n 3, 1) := eX12_fallsTo_100.2.1
theorem dX12_fallsTo_104 : decode cX12_fallsTo 104 = .ok (.ireturn, 1) := eX12_fallsTo_100.2.2.1
theorem eX12_falls_0 : decode cX12_falls 0 = .ok (.aload_n 0, 1) ∧ decode cX12_falls 1 = .ok (.iconst 0, 1) ∧ decode cX12_falls 2 = .ok (.putfield 59, 3) ∧ decode cX12_falls 5 = .ok (.aload_n 0, 1) ∧ decode cX12_falls 6 = .ok (.iconst 0, 1) ∧ decode cX12_falls 7 = .ok (.putfield 62, 3) ∧ decode cX12_falls 10 = .ok (.aload_n 0, 1) ∧ decode cX12_falls 11 = .ok (.iload_n 1, 1) ∧ True := dkl_ok (c := cX12_falls) [(.aload_n 0, 1), (.iconst 0, 1), (.putfield 59, 3), (.aload_n 0, 1), (.iconst 0, 1), (.putfield 62, 3), (.aload_n 0, 1), (.iload_n 1, 1)] 0 (by decide +kernel)
theorem dX12_falls_0 : decode cX12_falls 0 = .ok (.aload_n 0, 1) := eX12_falls_0.1
theorem dX12_falls_1 : decode cX12_falls 1 = .ok (.iconst 0, 1) := eX12_falls_0.2.1
theorem dX12_falls_2 : decode cX12_falls 2 = .ok (.putfield 59, 3) := eX12_falls_0.2.2.1
theorem dX12_falls_5 : decode cX12_falls 5 = .ok (.aload_n 0, 1) := eX12_falls_0.2.2.2.1
theorem dX12_falls_6 : decode cX12_falls 6 = .ok (.iconst 0, 1) := eX12_falls_0.2.2.2.2.1
theorem dX12_falls_7 : decode cX12_falls 7 = .ok (.putfield 62, 3) := eX12_falls_0.2.2.2.2.2.1
theorem dX12_falls_10 : decode cX12_falls 10 = .ok (.aload_n 0, 1) := eX12_falls_0.2.2.2.2.2.2.1
theorem dX12_falls_11 : decode cX12_falls 11 = .ok (.iload_n 1, 1) := eX12_falls_0.2.2.2.2.2.2.2.1
theorem eX12_falls_12 : decode cX12_falls 12 = .ok (.invokevirtual 290, 3) ∧ decode cX12_falls 15 = .ok (.ifCond .ne 9, 3) ∧ decode cX12_falls 18 = .ok (.aload_n 0, 1) ∧ decode cX12_falls 19 = .ok (.iconst 2, 1) ∧ decode cX12_falls 20 = .ok (.invokevirtual 284, 3) ∧ decode cX12_falls 23 = .ok (.ireturn, 1) ∧ decode cX12_falls 24 = .ok (.iload_n 2, 1) ∧ decode cX12_falls 25 = .ok (.i2l, 1) ∧ True := dkl_ok (c := cX12_falls) [(.invokevirtual 290, 3), (.ifCond .ne 9, 3), (.aload_n 0, 1), (.iconst 2, 1), (.invokevirtual 284, 3), (.ireturn, 1), (.iload_n 2, 1), (.i2l, 1)] 12 (by decide +kernel)
theorem dX12_falls_12 : decode cX12_falls 12 = .ok (.invokevirtual 290, 3) := eX12_falls_12.1
theorem dX12_falls_15 : decode cX12_falls 15 = .ok (.ifCond .ne 9, 3) := eX12_falls_12.2.1
theorem dX12_falls_18 : decode cX12_falls 18 = .ok (.aload_n 0, 1) := eX12_falls_12.2.2.1
theorem dX12_falls_19 : decode cX12_falls 19 = .ok (.iconst 2, 1) := eX12_falls_12.2.2.2.1
theorem dX12_falls_20 : decode cX12_falls 20 = .ok (.invokevirtual 284, 3) := eX12_falls_12.2.2.2.2.1
theorem dX12_falls_23 : decode cX12_falls 23 = .ok (.ireturn, 1) := eX12_falls_12.2.2.2.2.2.1
theorem dX12_falls_24 : decode cX12_falls 24 = .ok (.iload_n 2, 1) := eX12_falls_12.2.2.2.2.2.2.1
theorem dX12_falls_25 : decode cX12_falls 25 = .ok (.i2l, 1) := eX12_falls_12.2.2.2.2.2.2.2.1
theorem eX12_falls_26 : decode cX12_falls 26 = .ok (.lconst 0, 1) ∧ decode cX12_falls 27 = .ok (.ldc2_w 370, 3) ∧ decode cX12_falls 30 = .ok (.invokestatic 94, 3) ∧ decode cX12_falls 33 = .ok (.ifCond .eq 12, 3) ∧ decode cX12_falls 36 = .ok (.aload_n 0, 1) ∧ decode cX12_falls 37 = .ok (.iload_n 1, 1) ∧ decode cX12_falls 38 = .ok (.iload_n 2, 1) ∧ decode cX12_falls 39 = .ok (.invokevirtual 372, 3) ∧ True := dkl_ok (c := cX12_falls) [(.lconst 0, 1), (.ldc2_w 370, 3), (.invokestatic 94, 3), (.ifCond .eq 12, 3), (.aload_n 0, 1), (.iload_n 1, 1), (.iload_n 2, 1), (.invokevirtual 372, 3)] 26 (by decide +kernel)
theorem dX12_falls_26 : decode cX12_falls 26 = .ok (.lconst 0, 1) := eX12_falls_26.1
theorem dX12_falls_27 : decode cX12_falls 27 = .ok (.ldc2_w 370, 3) := eX12_falls_26.2.1
theorem dX12_falls_30 : decode cX12_falls 30 = .ok (.invokestatic 94, 3) := eX12_falls_26.2.2.1
theorem dX12_falls_33 : decode cX12_falls 33 = .ok (.ifCond .eq 12, 3) := eX12_falls_26.2.2.2.1
theorem dX12_falls_36 : decode cX12_falls 36 = .ok (.aload_n 0, 1) := eX12_falls_26.2.2.2.2.1
theorem dX12_falls_37 : decode cX12_falls 37 = .ok (.iload_n 1, 1) := eX12_falls_26.2.2.2.2.2.1
theorem dX12_falls_38 : decode cX12_falls 38 = .ok (.iload_n 2, 1) := eX12_falls_26.2.2.2.2.2.2.1
theorem dX12_falls_39 : decode cX12_falls 39 = .ok (.invokevirtual 372, 3) := eX12_falls_26.2.2.2.2.2.2.2.1
theorem eX12_falls_42 : decode cX12_falls 42 = .ok (.goto 8, 3) ∧ decode cX12_falls 45 = .ok (.aload_n 0, 1) ∧ decode cX12_falls 46 = .ok (.iconst 5, 1) ∧ decode cX12_falls 47 = .ok (.invokevirtual 284, 3) ∧ decode cX12_falls 50 = .ok (.ireturn, 1) ∧ True := dkl_ok (c := cX12_falls) [(.goto 8, 3), (.aload_n 0, 1), (.iconst 5, 1), (.invokevirtual 284, 3), (.ireturn, 1)] 42 (by decide +kernel)
theorem dX12_falls_42 : decode cX12_falls 42 = .ok (.goto 8, 3) := eX12_falls_42.1
theorem dX12_falls_45 : decode cX12_falls 45 = .ok (.aload_n 0, 1) := eX12_falls_42.2.1
theorem dX12_falls_46 : decode cX12_falls 46 = .ok (.iconst 5, 1) := eX12_falls_42.2.2.1
theorem dX12_falls_47 : decode cX12_falls 47 = .ok (.invokevirtual 284, 3) := eX12_falls_42.2.2.2.1
theorem dX12_falls_50 : decode cX12_falls 50 = .ok (.ireturn, 1) := eX12_falls_42.2.2.2.2.1
theorem eX12_honestFor_0 : decode cX12_honestFor 0 = .ok (.iconst 0, 1) ∧ decode cX12_honestFor 1 = .ok (.istore_n 3, 1) ∧ decode cX12_honestFor 2 = .ok (.iload_n 3, 1) ∧ decode cX12_honestFor 3 = .ok (.bipush 10, 2) ∧ decode cX12_honestFor 5 = .ok (.if_icmp .ge 21, 3) ∧ decode cX12_honestFor 8 = .ok (.aload_n 0, 1) ∧ decode cX12_honestFor 9 = .ok (.getfield 53, 3) ∧ decode cX12_honestFor 12 = .ok (.iload_n 3, 1) ∧ True := dkl_ok (c := cX12_honestFor) [(.iconst 0, 1), (.istore_n 3, 1), (.iload_n 3, 1), (.bipush 10, 2), (.if_icmp .ge 21, 3), (.aload_n 0, 1), (.getfield 53, 3), (.iload_n 3, 1)] 0 (by decide +kernel)
theorem dX12_honestFor_0 : decode cX12_honestFor 0 = .ok (.iconst 0, 1) := eX12_honestFor_0.1
theorem dX12_honestFor_1 : decode cX12_honestFor 1 = .ok (.istore_n 3, 1) := eX12_honestFor_0.2.1
theorem dX12_honestFor_2 : decode cX12_honestFor 2 = .ok (.iload_n 3, 1) := eX12_honestFor_0.2.2.1
theorem dX12_honestFor_3 : decode cX12_honestFor 3 = .ok (.bipush 10, 2) := eX12_honestFor_0.2.2.2.1
theorem dX12_honestFor_5 : decode cX12_honestFor 5 = .ok (.if_icmp .ge 21, 3) := eX12_honestFor_0.2.2.2.2.1
theorem dX12_honestFor_8 : decode cX12_honestFor 8 = .ok (.aload_n 0, 1) := eX12_honestFor_0.2.2.2.2.2.1
theorem dX12_honestFor_9 : decode cX12_honestFor 9 = .ok (.getfield 53, 3) := eX12_honestFor_0.2.2.2.2.2.2.1
theorem dX12_honestFor_12 : decode cX12_honestFor 12 = .ok (.iload_n 3, 1) := eX12_honestFor_0.2.2.2.2.2.2.2.1
theorem eX12_honestFor_13 : decode cX12_honestFor 13 = .ok (.aload_n 0, 1) ∧ decode cX12_honestFor 14 = .ok (.iload_n 1, 1) ∧ decode cX12_honestFor 15 = .ok (.iload_n 3, 1) ∧ decode cX12_honestFor 16 = .ok (.invokevirtual 276, 3) ∧ decode cX12_honestFor 19 = .ok (.iastore, 1) ∧ decode cX12_honestFor 20 = .ok (.iinc 3 1, 3) ∧ decode cX12_honestFor 23 = .ok (.goto (-21), 3) ∧ decode cX12_honestFor 26 = .ok (.aload_n 0, 1) ∧ True := dkl_ok (c := cX12_honestFor) [(.aload_n 0, 1), (.iload_n 1, 1), (.iload_n 3, 1), (.invokevirtual 276, 3), (.iastore, 1), (.iinc 3 1, 3), (.goto (-21), 3), (.aload_n 0, 1)] 13 (by decide +kernel)
theorem dX12_honestFor_13 : decode cX12_honestFor 13 = .ok (.aload_n 0, 1) := eX12_honestFor_13.1
theorem dX12_honestFor_14 : decode cX12_honestFor 14 = .ok (.iload_n 1, 1) := eX12_honestFor_13.2.1
theorem dX12_honestFor_15 : decode cX12_honestFor 15 = .ok (.iload_n 3, 1) := eX12_honestFor_13.2.2.1
theorem dX12_honestFor_16 : decode cX12_honestFor 16 = .ok (.invokevirtual 276, 3) := eX12_honestFor_13.2.2.2.1
theorem dX12_honestFor_19 : decode cX12_honestFor 19 = .ok (.iastore, 1) := eX12_honestFor_13.2.2.2.2.1
theorem dX12_honestFor_20 : decode cX12_honestFor 20 = .ok (.iinc 3 1, 3) := eX12_honestFor_13.2.2.2.2.2.1
theorem dX12_honestFor_23 : decode cX12_honestFor 23 = .ok (.goto (-21), 3) := eX12_honestFor_13.2.2.2.2.2.2.1
theorem dX12_honestFor_26 : decode cX12_honestFor 26 = .ok (.aload_n 0, 1) := eX12_honestFor_13.2.2.2.2.2.2.2.1
theorem eX12_honestFor_27 : decode cX12_honestFor 27 = .ok (.iload_n 1, 1) ∧ decode cX12_honestFor 28 = .ok (.invokevirtual 293, 3) ∧ decode cX12_honestFor 31 = .ok (.istore_n 3, 1) ∧ decode cX12_honestFor 32 = .ok (.aload_n 0, 1) ∧ decode cX12_honestFor 33 = .ok (.iconst 0, 1) ∧ decode cX12_honestFor 34 = .ok (.putfield 375, 3) ∧ decode cX12_honestFor 37 = .ok (.aload_n 0, 1) ∧ decode cX12_honestFor 38 = .ok (.iconst (-1), 1) ∧ True := dkl_ok (c := cX12_honestFor) [(.iload_n 1, 1), (.invokevirtual 293, 3), (.istore_n 3, 1), (.aload_n 0, 1), (.iconst 0, 1), (.putfield 375, 3), (.aload_n 0, 1), (.iconst (-1), 1)] 27 (by decide +kernel)
theorem dX12_honestFor_27 : decode cX12_honestFor 27 = .ok (.iload_n 1, 1) := eX12_honestFor_27.1
theorem dX12_honestFor_28 : decode cX12_honestFor 28 = .ok (.invokevirtual 293, 3) := eX12_honestFor_27.2.1
theorem dX12_honestFor_31 : decode cX12_honestFor 31 = .ok (.istore_n 3, 1) := eX12_honestFor_27.2.2.1
theorem dX12_honestFor_32 : decode cX12_honestFor 32 = .ok (.aload_n 0, 1) := eX12_honestFor_27.2.2.2.1
theorem dX12_honestFor_33 : decode cX12_honestFor 33 = .ok (.iconst 0, 1) := eX12_honestFor_27.2.2.2.2.1
theorem dX12_honestFor_34 : decode cX12_honestFor 34 = .ok (.putfield 375, 3) := eX12_honestFor_27.2.2.2.2.2.1
theorem dX12_honestFor_37 : decode cX12_honestFor 37 = .ok (.aload_n 0, 1) := eX12_honestFor_27.2.2.2.2.2.2.1
theorem dX12_honestFor_38 : decode cX12_honestFor 38 = .ok (.iconst (-1), 1) := eX12_honestFor_27.2.2.2.2.2.2.2.1
theorem eX12_honestFor_39 : decode cX12_honestFor 39 = .ok (.putfield 378, 3) ∧ decode cX12_honestFor 42 = .ok (.aload_n 0, 1) ∧ decode cX12_honestFor 43 = .ok (.iconst (-1), 1) ∧ decode cX12_honestFor 44 = .ok (.putfield 381, 3) ∧ decode cX12_honestFor 47 = .ok (.iconst 0, 1) ∧ decode cX12_honestFor 48 = .ok (.istore 4, 2) ∧ decode cX12_honestFor 50 = .ok (.iload 4, 2) ∧ decode cX12_honestFor 52 = .ok (.iload_n 2, 1) ∧ True := dkl_ok (c := cX12_honestFor) [(.putfield 378, 3), (.aload_n 0, 1), (.iconst (-1), 1), (.putfield 381, 3), (.iconst 0, 1), (.istore 4, 2), (.iload 4, 2), (.iload_n 2, 1)] 39 (by decide +kernel)
theorem dX12_honestFor_39 : decode cX12_honestFor 39 = .ok (.putfield 378, 3) := eX12_honestFor_39.1
theorem dX12_honestFor_42 : decode cX12_honestFor 42 = .ok (.aload_n 0, 1) := eX12_honestFor_39.2.1
theorem dX12_honestFor_43 : decode cX12_honestFor 43 = .ok (.iconst (-1), 1) := eX12_honestFor_39.2.2.1
theorem dX12_honestFor_44 : decode cX12_honestFor 44 = .ok (.putfield 381, 3) := eX12_honestFor_39.2.2.2.1
theorem dX12_honestFor_47 : decode cX12_honestFor 47 = .ok (.iconst 0, 1) := eX12_honestFor_39.2.2.2.2.1
theorem dX12_honestFor_48 : decode cX12_honestFor 48 = .ok (.istore 4, 2) := eX12_honestFor_39.2.2.2.2.2.1
theorem dX12_honestFor_50 : decode cX12_honestFor 50 = .ok (.iload 4, 2) := eX12_honestFor_39.2.2.2.2.2.2.1
theorem dX12_honestFor_52 : decode cX12_honestFor 52 = .ok (.iload_n 2, 1) := eX12_honestFor_39.2.2.2.2.2.2.2.1
theorem eX12_honestFor_53 : decode cX12_honestFor 53 = .ok (.if_icmp .ge 104, 3) ∧ decode cX12_honestFor 56 = .ok (.aload_n 0, 1) ∧ decode cX12_honestFor 57 = .ok (.iload_n 1, 1) ∧ decode cX12_honestFor 58 = .ok (.iload 4, 2) ∧ decode cX12_honestFor 60 = .ok (.invokevirtual 372, 3) ∧ decode cX12_honestFor 63 = .ok (.istore 5, 2) ∧ decode cX12_honestFor 65 = .ok (.aload_n 0, 1) ∧ decode cX12_honestFor 66 = .ok (.getfield 35, 3) ∧ True := dkl_ok (c := cX12_honestFor) [(.if_icmp .ge 104, 3), (.aload_n 0, 1), (.iload_n 1, 1), (.iload 4, 2), (.invokevirtual 372, 3), (.istore 5, 2), (.aload_n 0, 1), (.getfield 35, 3)] 53 (by decide +kernel)
theorem dX12_honestFor_53 : decode cX12_honestFor 53 = .ok (.if_icmp .ge 104, 3) := eX12_honestFor_53.1
theorem dX12_honestFor_56 : decode cX12_honestFor 56 = .ok (.aload_n 0, 1) := eX12_honestFor_53.2.1
theorem dX12_honestFor_57 : decode cX12_honestFor 57 = .ok (.iload_n 1, 1) := eX12_honestFor_53.2.2.1
theorem dX12_honestFor_58 : decode cX12_honestFor 58 = .ok (.iload 4, 2) := eX12_honestFor_53.2.2.2.1
theorem dX12_honestFor_60 : decode cX12_honestFor 60 = .ok (.invokevirtual 372, 3) := eX12_honestFor_53.2.2.2.2.1
theorem dX12_honestFor_63 : decode cX12_honestFor 63 = .ok (.istore 5, 2) := eX12_honestFor_53.2.2.2.2.2.1
theorem dX12_honestFor_65 : decode cX12_honestFor 65 = .ok (.aload_n 0, 1) := eX12_honestFor_53.2.2.2.2.2.2.1
theorem dX12_honestFor_66 : decode cX12_honestFor 66 = .ok (.getfield 35, 3) := eX12_honestFor_53.2.2.2.2.2.2.2.1
theorem eX12_honestFor_69 : decode cX12_honestFor 69 = .ok (.iconst 4, 1) ∧ decode cX12_honestFor 70 = .ok (.iaload, 1) ∧ decode cX12_honestFor 71 = .ok (.aload_n 0, 1) ∧ decode cX12_honestFor 72 = .ok (.getfield 53, 3) ∧ decode cX12_honestFor 75 = .ok (.iload 5, 2) ∧ decode cX12_honestFor 77 = .ok (.iaload, 1) ∧ decode cX12_honestFor 78 = .ok (.invokestatic 384, 3) ∧ decode cX12_honestFor 81 = .ok (.istore 6, 2) ∧ True := dkl_ok (c := cX12_honestFor) [(.iconst 4, 1), (.iaload, 1), (.aload_n 0, 1), (.getfield 53, 3), (.iload 5, 2), (.iaload, 1), (.invokestatic 384, 3), (.istore 6, 2)] 69 (by decide +kernel)
theorem dX12_honestFor_69 : decode cX12_honestFor 69 = .ok (.iconst 4, 1) := eX12_honestFor_69.1
theorem dX12_honestFor_70 : decode cX12_honestFor 70 = .ok (.iaload, 1) := eX12_honestFor_69.2.1
theorem dX12_honestFor_71 : decode cX12_honestFor 71 = .ok (.aload_n 0, 1) := eX12_honestFor_69.2.2.1
theorem dX12_honestFor_72 : decode cX12_honestFor 72 = .ok (.getfield 53, 3) := eX12_honestFor_69.2.2.2.1
theorem dX12_honestFor_75 : decode cX12_honestFor 75 = .ok (.iload 5, 2) := eX12_honestFor_69.2.2.2.2.1
theorem dX12_honestFor_77 : decode cX12_honestFor 77 = .ok (.iaload, 1) := eX12_honestFor_69.2.2.2.2.2.1
theorem dX12_honestFor_78 : decode cX12_honestFor 78 = .ok (.invokestatic 384, 3) := eX12_honestFor_69.2.2.2.2.2.2.1
theorem dX12_honestFor_81 : decode cX12_honestFor 81 = .ok (.istore 6, 2) := eX12_honestFor_69.2.2.2.2.2.2.2.1
theorem eX12_honestFor_83 : decode cX12_honestFor 83 = .ok (.iload 6, 2) ∧ decode cX12_honestFor 85 = .ok (.ifCond .ne 20, 3) ∧ decode cX12_honestFor 88 = .ok (.iload_n 3, 1) ∧ decode cX12_honestFor 89 = .ok (.ifCond .le 16, 3) ∧ decode cX12_honestFor 92 = .ok (.aload_n 0, 1) ∧ decode cX12_honestFor 93 = .ok (.getfield 381, 3) ∧ decode cX12_honestFor 96 = .ok (.ifCond .ge 9, 3) ∧ decode cX12_honestFor 99 = .ok (.aload_n 0, 1) ∧ True := dkl_ok (c := cX12_honestFor) [(.iload 6, 2), (.ifCond .ne 20, 3), (.iload_n 3, 1), (.ifCond .le 16, 3), (.aload_n 0, 1), (.getfield 381, 3), (.ifCond .ge 9, 3), (.aload_n 0, 1)] 83 (by decide +kernel)
theorem dX12_honestFor_83 : decode cX12_honestFor 83 = .ok (.iload 6, 2) := eX12_honestFor_83.1
theorem dX12_honestFor_85 : decode cX12_honestFor 85 = .ok (.ifCond .ne 20, 3) := eX12_honestFor_83.2.1
theorem dX12_honestFor_88 : decode cX12_honestFor 88 = .ok (.iload_n 3, 1) := eX12_honestFor_83.2.2.1
theorem dX12_honestFor_89 : decode cX12_honestFor 89 = .ok (.ifCond .le 16, 3) := eX12_honestFor_83.2.2.2.1
theorem dX12_honestFor_92 : decode cX12_honestFor 92 = .ok (.aload_n 0, 1) := eX12_honestFor_83.2.2.2.2.1
theorem dX12_honestFor_93 : decode cX12_honestFor 93 = .ok (.getfield 381, 3) := eX12_honestFor_83.2.2.2.2.2.1
theorem dX12_honestFor_96 : decode cX12_honestFor 96 = .ok (.ifCond .ge 9, 3) := eX12_honestFor_83.2.2.2.2.2.2.1
theorem dX12_honestFor_99 : decode cX12_honestFor 99 = .ok (.aload_n 0, 1) := eX12_honestFor_83.2.2.2.2.2.2.2.1
theorem eX12_honestFor_100 : decode cX12_honestFor 100 = .ok (.iload 4, 2) ∧ decode cX12_honestFor 102 = .ok (.putfield 381, 3) ∧ decode cX12_honestFor 105 = .ok (.aload_n 0, 1) ∧ decode cX12_honestFor 106 = .ok (.getfield 53, 3) ∧ decode cX12_honestFor 109 = .ok (.iload 5, 2) ∧ decode cX12_honestFor 111 = .ok (.dup2, 1) ∧ decode cX12_honestFor 112 = .ok (.iaload, 1) ∧ decode cX12_honestFor 113 = .ok (.iload 6, 2) ∧ True := dkl_ok (c := cX12_honestFor) [(.iload 4, 2), (.putfield 381, 3), (.aload_n 0, 1), (.getfield 53, 3), (.iload 5, 2), (.dup2, 1), (.iaload, 1), (.iload 6, 2)] 100 (by decide +kernel)
theorem dX12_honestFor_100 : decode cX12_honestFor 100 = .ok (.iload 4, 2) := eX12_honestFor_100.1
theorem dX12_honestFor_102 : decode cX12_honestFor 102 = .ok (.putfield 381, 3) := eX12_honestFor_100.2.1
theorem dX12_honestFor_105 : decode cX12_honestFor 105 = .ok (.aload_n 0, 1) := eX12_honestFor_100.2.2.1
theorem dX12_honestFor_106 : decode cX12_honestFor 106 = .ok (.getfield 53, 3) := eX12_honestFor_100.2.2.2.1
theorem dX12_honestFor_109 : decode cX12_honestFor 109 = .ok (.iload 5, 2) := eX12_honestFor_100.2.2.2.2.1
theorem dX12_honestFor_111 : decode cX12_honestFor 111 = .ok (.dup2, 1) := eX12_honestFor_100.2.2.2.2.2.1
theorem dX12_honestFor_112 : decode cX12_honestFor 112 = .ok (.iaload, 1) := eX12_honestFor_100.2.2.2.2.2.2.1
theorem dX12_honestFor_113 : decode cX12_honestFor 113 = .ok (.iload 6, 2) := eX12_honestFor_100.2.2.2.2.2.2.2.1
theorem eX12_honestFor_115 : decode cX12_honestFor 115 = .ok (.isub, 1) ∧ decode cX12_honestFor 116 = .ok (.iastore, 1) ∧ decode cX12_honestFor 117 = .ok (.aload_n 0, 1) ∧ decode cX12_honestFor 118 = .ok (.dup, 1) ∧ decode cX12_honestFor 119 = .ok (.getfield 375, 3) ∧ decode cX12_honestFor 122 = .ok (.iload 6, 2) ∧ decode cX12_honestFor 124 = .ok (.iadd, 1) ∧ decode cX12_honestFor 125 = .ok (.putfield 375, 3) ∧ True := dkl_ok (c := cX12_honestFor) [(.isub, 1), (.iastore, 1), (.aload_n 0, 1), (.dup, 1), (.getfield 375, 3), (.iload 6, 2), (.iadd, 1), (.putfield 375, 3)] 115 (by decide +kernel)
theorem dX12_honestFor_115 : decode cX12_honestFor 115 = .ok (.isub, 1) := eX12_honestFor_115.1
theorem dX12_honestFor_116 : decode cX12_honestFor 116 = .ok (.iastore, 1) := eX12_honestFor_115.2.1
theorem dX12_honestFor_117 : decode cX12_honestFor 117 = .ok (.aload_n 0, 1) := eX12_honestFor_115.2.2.1
theorem dX12_honestFor_118 : decode cX12_honestFor 118 = .ok (.dup, 1) := eX12_honestFor_115.2.2.2.1
theorem dX12_honestFor_119 : decode cX12_honestFor 119 = .ok (.getfield 375, 3) := eX12_honestFor_115.2.2.2.2.1
theorem dX12_honestFor_122 : decode cX12_honestFor 122 = .ok (.iload 6, 2) := eX12_honestFor_115.2.2.2.2.2.1
theorem dX12_honestFor_124 : decode cX12_honestFor 124 = .ok (.iadd, 1) := eX12_honestFor_115.2.2.2.2.2.2.1
theorem dX12_honestFor_125 : decode cX12_honestFor 125 = .ok (.putfield 375, 3) := eX12_honestFor_115.2.2.2.2.2.2.2.1
theorem eX12_honestFor_128 : decode cX12_honestFor 128 = .ok (.iload_n 3, 1) ∧ decode cX12_honestFor 129 = .ok (.iload 6, 2) ∧ decode cX12_honestFor 131 = .ok (.isub, 1) ∧ decode cX12_honestFor 132 = .ok (.istore_n 3, 1) ∧ decode cX12_honestFor 133 = .ok (.aload_n 0, 1) ∧ decode cX12_honestFor 134 = .ok (.iload 6, 2) ∧ decode cX12_honestFor 136 = .ok (.ifCond .le 8, 3) ∧ decode cX12_honestFor 139 = .ok (.iload 5, 2) ∧ True := dkl_ok (c := cX12_honestFor) [(.iload_n 3, 1), (.iload 6, 2), (.isub, 1), (.istore_n 3, 1), (.aload_n 0, 1), (.iload 6, 2), (.ifCond .le 8, 3), (.iload 5, 2)] 128 (by decide +kernel)
theorem dX12_honestFor_128 : decode cX12_honestFor 128 = .ok (.iload_n 3, 1) := eX12_honestFor_128.1
theorem dX12_honestFor_129 : decode cX12_honestFor 129 = .ok (.iload 6, 2) := eX12_honestFor_128.2.1
theorem dX12_honestFor_131 : decode cX12_honestFor 131 = .ok (.isub, 1) := eX12_honestFor_128.2.2.1
theorem dX12_honestFor_132 : decode cX12_honestFor 132 = .ok (.istore_n 3, 1) := eX12_honestFor_128.2.2.2.1
theorem dX12_honestFor_133 : decode cX12_honestFor 133 = .ok (.aload_n 0, 1) := eX12_honestFor_128.2.2.2.2.1
theorem dX12_honestFor_134 : decode cX12_honestFor 134 = .ok (.iload 6, 2) := eX12_honestFor_128.2.2.2.2.2.1
theorem dX12_honestFor_136 : decode cX12_honestFor 136 = .ok (.ifCond .le 8, 3) := eX12_honestFor_128.2.2.2.2.2.2.1
theorem dX12_honestFor_139 : decode cX12_honestFor 139 = .ok (.iload 5, 2) := eX12_honestFor_128.2.2.2.2.2.2.2.1
theorem eX12_honestFor_141 : decode cX12_honestFor 141 = .ok (.goto 7, 3) ∧ decode cX12_honestFor 144 = .ok (.aload_n 0, 1) ∧ decode cX12_honestFor 145 = .ok (.getfield 378, 3) ∧ decode cX12_honestFor 148 = .ok (.putfield 378, 3) ∧ decode cX12_honestFor 151 = .ok (.iinc 4 1, 3) ∧ decode cX12_honestFor 154 = .ok (.goto (-104), 3) ∧ decode cX12_honestFor 157 = .ok (.iload_n 3, 1) ∧ decode cX12_honestFor 158 = .ok (.ireturn, 1) ∧ True := dkl_ok (c := cX12_honestFor) [(.goto 7, 3), (.aload_n 0, 1), (.getfield 378, 3), (.putfield 378, 3), (.iinc 4 1, 3), (.goto (-104), 3), (.iload_n 3, 1), (.ireturn, 1)] 141 (by decide +kernel)
theorem dX12_honestFor_141 : decode cX12_honestFor 141 = .ok (.goto 7, 3) := eX12_honestFor_141.1
theorem dX12_honestFor_144 : decode cX12_honestFor 144 = .ok (.aload_n 0, 1) := eX12_honestFor_141.2.1
theorem dX12_honestFor_145 : decode cX12_honestFor 145 = .ok (.getfield 378, 3) := eX12_honestFor_141.2.2.1
theorem dX12_honestFor_148 : decode cX12_honestFor 148 = .ok (.putfield 378, 3) := eX12_honestFor_141.2.2.2.1
theorem dX12_honestFor_151 : decode cX12_honestFor 151 = .ok (.iinc 4 1, 3) := eX12_honestFor_141.2.2.2.2.1
theorem dX12_honestFor_154 : decode cX12_honestFor 154 = .ok (.goto (-104), 3) := eX12_honestFor_141.2.2.2.2.2.1
theorem dX12_honestFor_157 : decode cX12_honestFor 157 = .ok (.iload_n 3, 1) := eX12_honestFor_141.2.2.2.2.2.2.1
theorem dX12_honestFor_158 : decode cX12_honestFor 158 = .ok (.ireturn, 1) := eX12_honestFor_141.2.2.2.2.2.2.2.1
theorem eX12_honestly_0 : decode cX12_honestly 0 = .ok (.aload_n 0, 1) ∧ decode cX12_honestly 1 = .ok (.iconst 0, 1) ∧ decode cX12_honestly 2 = .ok (.putfield 59, 3) ∧ decode cX12_honestly 5 = .ok (.aload_n 0, 1) ∧ decode cX12_honestly 6 = .ok (.iconst 0, 1) ∧ decode cX12_honestly 7 = .ok (.putfield 62, 3) ∧ decode cX12_honestly 10 = .ok (.aload_n 0, 1) ∧ decode cX12_honestly 11 = .ok (.iload_n 1, 1) ∧ True := dkl_ok (c := cX12_honestly) [(.aload_n 0, 1), (.iconst 0, 1), (.putfield 59, 3), (.aload_n 0, 1), (.iconst 0, 1), (.putfield 62, 3), (.aload_n 0, 1), (.iload_n 1, 1)] 0 (by decide +kernel)
theorem dX12_honestly_0 : decode cX12_honestly 0 = .ok (.aload_n 0, 1) := eX12_honestly_0.1
theorem dX12_honestly_1 : decode cX12_honestly 1 = .ok (.iconst 0, 1) := eX12_honestly_0.2.1
theorem dX12_honestly_2 : decode cX12_honestly 2 = .ok (.putfield 59, 3) := eX12_honestly_0.2.2.1
theorem dX12_honestly_5 : decode cX12_honestly 5 = .ok (.aload_n 0, 1) := eX12_honestly_0.2.2.2.1
theorem dX12_honestly_6 : decode cX12_honestly 6 = .ok (.iconst 0, 1) := eX12_honestly_0.2.2.2.2.1
theorem dX12_honestly_7 : decode cX12_honestly 7 = .ok (.putfield 62, 3) := eX12_honestly_0.2.2.2.2.2.1
theorem dX12_honestly_10 : decode cX12_honestly 10 = .ok (.aload_n 0, 1) := eX12_honestly_0.2.2.2.2.2.2.1
theorem dX12_honestly_11 : decode cX12_honestly 11 = .ok (.iload_n 1, 1) := eX12_honestly_0.2.2.2.2.2.2.2.1
theorem eX12_honestly_12 : decode cX12_honestly 12 = .ok (.invokevirtual 290, 3) ∧ decode cX12_honestly 15 = .ok (.ifCond .ne 9, 3) ∧ decode cX12_honestly 18 = .ok (.aload_n 0, 1) ∧ decode cX12_honestly 19 = .ok (.iconst 2, 1) ∧ decode cX12_honestly 20 = .ok (.invokevirtual 284, 3) ∧ decode cX12_honestly 23 = .ok (.ireturn, 1) ∧ decode cX12_honestly 24 = .ok (.iload_n 2, 1) ∧ decode cX12_honestly 25 = .ok (.i2l, 1) ∧ True := dkl_ok (c := cX12_honestly) [(.invokevirtual 290, 3), (.ifCond .ne 9, 3), (.aload_n 0, 1), (.iconst 2, 1), (.invokevirtual 284, 3), (.ireturn, 1), (.iload_n 2, 1), (.i2l, 1)] 12 (by decide +kernel)
theorem dX12_honestly_12 : decode cX12_honestly 12 = .ok (.invokevirtual 290, 3) := eX12_honestly_12.1
theorem dX12_honestly_15 : decode cX12_honestly 15 = .ok (.ifCond .ne 9, 3) := eX12_honestly_12.2.1
theorem dX12_honestly_18 : decode cX12_honestly 18 = .ok (.aload_n 0, 1) := eX12_honestly_12.2.2.1
theorem dX12_honestly_19 : decode cX12_honestly 19 = .ok (.iconst 2, 1) := eX12_honestly_12.2.2.2.1
theorem dX12_honestly_20 : decode cX12_honestly 20 = .ok (.invokevirtual 284, 3) := eX12_honestly_12.2.2.2.2.1
theorem dX12_honestly_23 : decode cX12_honestly 23 = .ok (.ireturn, 1) := eX12_honestly_12.2.2.2.2.2.1
theorem dX12_honestly_24 : decode cX12_honestly 24 = .ok (.iload_n 2, 1) := eX12_honestly_12.2.2.2.2.2.2.1
theorem dX12_honestly_25 : decode cX12_honestly 25 = .ok (.i2l, 1) := eX12_honestly_12.2.2.2.2.2.2.2.1
theorem eX12_honestly_26 : decode cX12_honestly 26 = .ok (.lconst 0, 1) ∧ decode cX12_honestly 27 = .ok (.ldc2_w 370, 3) ∧ decode cX12_honestly 30 = .ok (.invokestatic 94, 3) ∧ decode cX12_honestly 33 = .ok (.ifCond .ne 9, 3) ∧ decode cX12_honestly 36 = .ok (.aload_n 0, 1) ∧ decode cX12_honestly 37 = .ok (.iconst 5, 1) ∧ decode cX12_honestly 38 = .ok (.invokevirtual 284, 3) ∧ decode cX12_honestly 41 = .ok (.ireturn, 1) ∧ True := dkl_ok (c := cX12_honestly) [(.lconst 0, 1), (.ldc2_w 370, 3), (.invokestatic 94, 3), (.ifCond .ne 9, 3), (.aload_n 0, 1), (.iconst 5, 1), (.invokevirtual 284, 3), (.ireturn, 1)] 26 (by decide +kernel)
theorem dX12_honestly_26 : decode cX12_honestly 26 = .ok (.lconst 0, 1) := eX12_honestly_26.1
theorem dX12_honestly_27 : decode cX12_honestly 27 = .ok (.ldc2_w 370, 3) := eX12_honestly_26.2.1
theorem dX12_honestly_30 : decode cX12_honestly 30 = .ok (.invokestatic 94, 3) := eX12_honestly_26.2.2.1
theorem dX12_honestly_33 : decode cX12_honestly 33 = .ok (.ifCond .ne 9, 3) := eX12_honestly_26.2.2.2.1
theorem dX12_honestly_36 : decode cX12_honestly 36 = .ok (.aload_n 0, 1) := eX12_honestly_26.2.2.2.2.1
theorem dX12_honestly_37 : decode cX12_honestly 37 = .ok (.iconst 5, 1) := eX12_honestly_26.2.2.2.2.2.1
theorem dX12_honestly_38 : decode cX12_honestly 38 = .ok (.invokevirtual 284, 3) := eX12_honestly_26.2.2.2.2.2.2.1
theorem dX12_honestly_41 : decode cX12_honestly 41 = .ok (.ireturn, 1) := eX12_honestly_26.2.2.2.2.2.2.2.1
theorem eX12_honestly_42 : decode cX12_honestly 42 = .ok (.aload_n 0, 1) ∧ decode cX12_honestly 43 = .ok (.iload_n 1, 1) ∧ decode cX12_honestly 44 = .ok (.iload_n 2, 1) ∧ decode cX12_honestly 45 = .ok (.invokevirtual 387, 3) ∧ decode cX12_honestly 48 = .ok (.pop, 1) ∧ decode cX12_honestly 49 = .ok (.aload_n 0, 1) ∧ decode cX12_honestly 50 = .ok (.getfield 375, 3) ∧ decode cX12_honestly 53 = .ok (.ireturn, 1) ∧ True := dkl_ok (c := cX12_honestly) [(.aload_n 0, 1), (.iload_n 1, 1), (.iload_n 2, 1), (.invokevirtual 387, 3), (.pop, 1), (.aload_n 0, 1), (.getfield 375, 3), (.ireturn, 1)] 42 (by decide +kernel)
theorem dX12_honestly_42 : decode cX12_honestly 42 = .ok (.aload_n 0, 1) := eX12_honestly_42.1
theorem dX12_honestly_43 : decode cX12_honestly 43 = .ok (.iload_n 1, 1) := eX12_honestly_42.2.1
theorem dX12_honestly_44 : decode cX12_honestly 44 = .ok (.iload_n 2, 1) := eX12_honestly_42.2.2.1
theorem dX12_honestly_45 : decode cX12_honestly 45 = .ok (.invokevirtual 387, 3) := eX12_honestly_42.2.2.2.1
theorem dX12_honestly_48 : decode cX12_honestly 48 = .ok (.pop, 1) := eX12_honestly_42.2.2.2.2.1
theorem dX12_honestly_49 : decode cX12_honestly 49 = .ok (.aload_n 0, 1) := eX12_honestly_42.2.2.2.2.2.1
theorem dX12_honestly_50 : decode cX12_honestly 50 = .ok (.getfield 375, 3) := eX12_honestly_42.2.2.2.2.2.2.1
theorem dX12_honestly_53 : decode cX12_honestly 53 = .ok (.ireturn, 1) := eX12_honestly_42.2.2.2.2.2.2.2.1
theorem eX12_ridOf_0 : decode cX12_ridOf 0 = .ok (.iconst 0, 1) ∧ decode cX12_ridOf 1 = .ok (.istore_n 2, 1) ∧ decode cX12_ridOf 2 = .ok (.iload_n 2, 1) ∧ decode cX12_ridOf 3 = .ok (.bipush 60, 2) ∧ decode cX12_ridOf 5 = .ok (.if_icmp .gt 20, 3) ∧ decode cX12_ridOf 8 = .ok (.aload_n 0, 1) ∧ decode cX12_ridOf 9 = .ok (.iload_n 1, 1) ∧ decode cX12_ridOf 10 = .ok (.iload_n 2, 1) ∧ True := dkl_ok (c := cX12_ridOf) [(.iconst 0, 1), (.istore_n 2, 1), (.iload_n 2, 1), (.bipush 60, 2), (.if_icmp .gt 20, 3), (.aload_n 0, 1), (.iload_n 1, 1), (.iload_n 2, 1)] 0 (by decide +kernel)
theorem dX12_ridOf_0 : decode cX12_ridOf 0 = .ok (.iconst 0, 1) := eX12_ridOf_0.1
theorem dX12_ridOf_1 : decode cX12_ridOf 1 = .ok (.istore_n 2, 1) := eX12_ridOf_0.2.1
theorem dX12_ridOf_2 : decode cX12_ridOf 2 = .ok (.iload_n 2, 1) := eX12_ridOf_0.2.2.1
theorem dX12_ridOf_3 : decode cX12_ridOf 3 = .ok (.bipush 60, 2) := eX12_ridOf_0.2.2.2.1
theorem dX12_ridOf_5 : decode cX12_ridOf 5 = .ok (.if_icmp .gt 20, 3) := eX12_ridOf_0.2.2.2.2.1
theorem dX12_ridOf_8 : decode cX12_ridOf 8 = .ok (.aload_n 0, 1) := eX12_ridOf_0.2.2.2.2.2.1
theorem dX12_ridOf_9 : decode cX12_ridOf 9 = .ok (.iload_n 1, 1) := eX12_ridOf_0.2.2.2.2.2.2.1
theorem dX12_ridOf_10 : decode cX12_ridOf 10 = .ok (.iload_n 2, 1) := eX12_ridOf_0.2.2.2.2.2.2.2.1
theorem eX12_ridOf_11 : decode cX12_ridOf 11 = .ok (.invokevirtual 387, 3) ∧ decode cX12_ridOf 14 = .ok (.ifCond .ne 5, 3) ∧ decode cX12_ridOf 17 = .ok (.iload_n 2, 1) ∧ decode cX12_ridOf 18 = .ok (.ireturn, 1) ∧ decode cX12_ridOf 19 = .ok (.iinc 2 1, 3) ∧ decode cX12_ridOf 22 = .ok (.goto (-20), 3) ∧ decode cX12_ridOf 25 = .ok (.iconst (-1), 1) ∧ decode cX12_ridOf 26 = .ok (.ireturn, 1) ∧ True := dkl_ok (c := cX12_ridOf) [(.invokevirtual 387, 3), (.ifCond .ne 5, 3), (.iload_n 2, 1), (.ireturn, 1), (.iinc 2 1, 3), (.goto (-20), 3), (.iconst (-1), 1), (.ireturn, 1)] 11 (by decide +kernel)
theorem dX12_ridOf_11 : decode cX12_ridOf 11 = .ok (.invokevirtual 387, 3) := eX12_ridOf_11.1
theorem dX12_ridOf_14 : decode cX12_ridOf 14 = .ok (.ifCond .ne 5, 3) := eX12_ridOf_11.2.1
theorem dX12_ridOf_17 : decode cX12_ridOf 17 = .ok (.iload_n 2, 1) := eX12_ridOf_11.2.2.1
theorem dX12_ridOf_18 : decode cX12_ridOf 18 = .ok (.ireturn, 1) := eX12_ridOf_11.2.2.2.1
theorem dX12_ridOf_19 : decode cX12_ridOf 19 = .ok (.iinc 2 1, 3) := eX12_ridOf_11.2.2.2.2.1
theorem dX12_ridOf_22 : decode cX12_ridOf 22 = .ok (.goto (-20), 3) := eX12_ridOf_11.2.2.2.2.2.1
theorem dX12_ridOf_25 : decode cX12_ridOf 25 = .ok (.iconst (-1), 1) := eX12_ridOf_11.2.2.2.2.2.2.1
theorem dX12_ridOf_26 : decode cX12_ridOf 26 = .ok (.ireturn, 1) := eX12_ridOf_11.2.2.2.2.2.2.2.1
theorem eX12_rid_0 : decode cX12_rid 0 = .ok (.aload_n 0, 1) ∧ decode cX12_rid 1 = .ok (.iconst 0, 1) ∧ decode cX12_rid 2 = .ok (.putfield 59, 3) ∧ decode cX12_rid 5 = .ok (.aload_n 0, 1) ∧ decode cX12_rid 6 = .ok (.iconst 0, 1) ∧ decode cX12_rid 7 = .ok (.putfield 62, 3) ∧ decode cX12_rid 10 = .ok (.aload_n 0, 1) ∧ decode cX12_rid 11 = .ok (.iload_n 1, 1) ∧ True := dkl_ok (c := cX12_rid) [(.aload_n 0, 1), (.iconst 0, 1), (.putfield 59, 3), (.aload_n 0, 1), (.iconst 0, 1), (.putfield 62, 3), (.aload_n 0, 1), (.iload_n 1, 1)] 0 (by decide +kernel)
theorem dX12_rid_0 : decode cX12_rid 0 = .ok (.aload_n 0, 1) := eX12_rid_0.1
theorem dX12_rid_1 : decode cX12_rid 1 = .ok (.iconst 0, 1) := eX12_rid_0.2.1
theorem dX12_rid_2 : decode cX12_rid 2 = .ok (.putfield 59, 3) := eX12_rid_0.2.2.1
theorem dX12_rid_5 : decode cX12_rid 5 = .ok (.aload_n 0, 1) := eX12_rid_0.2.2.2.1
theorem dX12_rid_6 : decode cX12_rid 6 = .ok (.iconst 0, 1) := eX12_rid_0.2.2.2.2.1
theorem dX12_rid_7 : decode cX12_rid 7 = .ok (.putfield 62, 3) := eX12_rid_0.2.2.2.2.2.1
theorem dX12_rid_10 : decode cX12_rid 10 = .ok (.aload_n 0, 1) := eX12_rid_0.2.2.2.2.2.2.1
theorem dX12_rid_11 : decode cX12_rid 11 = .ok (.iload_n 1, 1) := eX12_rid_0.2.2.2.2.2.2.2.1
theorem eX12_rid_12 : decode cX12_rid 12 = .ok (.invokevirtual 290, 3) ∧ decode cX12_rid 15 = .ok (.ifCond .ne 9, 3) ∧ decode cX12_rid 18 = .ok (.aload_n 0, 1) ∧ decode cX12_rid 19 = .ok (.iconst 2, 1) ∧ decode cX12_rid 20 = .ok (.invokevirtual 284, 3) ∧ decode cX12_rid 23 = .ok (.ireturn, 1) ∧ decode cX12_rid 24 = .ok (.aload_n 0, 1) ∧ decode cX12_rid 25 = .ok (.iload_n 1, 1) ∧ True := dkl_ok (c := cX12_rid) [(.invokevirtual 290, 3), (.ifCond .ne 9, 3), (.aload_n 0, 1), (.iconst 2, 1), (.invokevirtual 284, 3), (.ireturn, 1), (.aload_n 0, 1), (.iload_n 1, 1)] 12 (by decide +kernel)
theorem dX12_rid_12 : decode cX12_rid 12 = .ok (.invokevirtual 290, 3) := eX12_rid_12.1
theorem dX12_rid_15 : decode cX12_rid 15 = .ok (.ifCond .ne 9, 3) := eX12_rid_12.2.1
theorem dX12_rid_18 : decode cX12_rid 18 = .ok (.aload_n 0, 1) := eX12_rid_12.2.2.1
theorem dX12_rid_19 : decode cX12_rid 19 = .ok (.iconst 2, 1) := eX12_rid_12.2.2.2.1
theorem dX12_rid_20 : decode cX12_rid 20 = .ok (.invokevirtual 284, 3) := eX12_rid_12.2.2.2.2.1
theorem dX12_rid_23 : decode cX12_rid 23 = .ok (.ireturn, 1) := eX12_rid_12.2.2.2.2.2.1
theorem dX12_rid_24 : decode cX12_rid 24 = .ok (.aload_n 0, 1) := eX12_rid_12.2.2.2.2.2.2.1
theorem dX12_rid_25 : decode cX12_rid 25 = .ok (.iload_n 1, 1) := eX12_rid_12.2.2.2.2.2.2.2.1
theorem eX12_rid_26 : decode cX12_rid 26 = .ok (.invokevirtual 390, 3) ∧ decode cX12_rid 29 = .ok (.istore_n 2, 1) ∧ decode cX12_rid 30 = .ok (.iload_n 2, 1) ∧ decode cX12_rid 31 = .ok (.ifCond .ge 12, 3) ∧ decode cX12_rid 34 = .ok (.aload_n 0, 1) ∧ decode cX12_rid 35 = .ok (.bipush 8, 2) ∧ decode cX12_rid 37 = .ok (.invokevirtual 284, 3) ∧ decode cX12_rid 40 = .ok (.goto 4, 3) ∧ True := dkl_ok (c := cX12_rid) [(.invokevirtual 390, 3), (.istore_n 2, 1), (.iload_n 2, 1), (.ifCond .ge 12, 3), (.aload_n 0, 1), (.bipush 8, 2), (.invokevirtual 284, 3), (.goto 4, 3)] 26 (by decide +kernel)
theorem dX12_rid_26 : decode cX12_rid 26 = .ok (.invokevirtual 390, 3) := eX12_rid_26.1
theorem dX12_rid_29 : decode cX12_rid 29 = .ok (.istore_n 2, 1) := eX12_rid_26.2.1
theorem dX12_rid_30 : decode cX12_rid 30 = .ok (.iload_n 2, 1) := eX12_rid_26.2.2.1
theorem dX12_rid_31 : decode cX12_rid 31 = .ok (.ifCond .ge 12, 3) := eX12_rid_26.2.2.2.1
theorem dX12_rid_34 : decode cX12_rid 34 = .ok (.aload_n 0, 1) := eX12_rid_26.2.2.2.2.1
theorem dX12_rid_35 : decode cX12_rid 35 = .ok (.bipush 8, 2) := eX12_rid_26.2.2.2.2.2.1
theorem dX12_rid_37 : decode cX12_rid 37 = .ok (.invokevirtual 284, 3) := eX12_rid_26.2.2.2.2.2.2.1
theorem dX12_rid_40 : decode cX12_rid 40 = .ok (.goto 4, 3) := eX12_rid_26.2.2.2.2.2.2.2.1
theorem eX12_rid_43 : decode cX12_rid 43 = .ok (.iload_n 2, 1) ∧ decode cX12_rid 44 = .ok (.ireturn, 1) ∧ True := dkl_ok (c := cX12_rid) [(.iload_n 2, 1), (.ireturn, 1)] 43 (by decide +kernel)
theorem dX12_rid_43 : decode cX12_rid 43 = .ok (.iload_n 2, 1) := eX12_rid_43.1
theorem dX12_rid_44 : decode cX12_rid 44 = .ok (.ireturn, 1) := eX12_rid_43.2.1
theorem eX12_lastKind_0 : decode cX12_lastKind 0 = .ok (.aload_n 0, 1) ∧ decode cX12_lastKind 1 = .ok (.iconst 0, 1) ∧ decode cX12_lastKind 2 = .ok (.putfield 59, 3) ∧ decode cX12_lastKind 5 = .ok (.aload_n 0, 1) ∧ decode cX12_lastKind 6 = .ok (.iconst 0, 1) ∧ decode cX12_lastKind 7 = .ok (.putfield 62, 3) ∧ decode cX12_lastKind 10 = .ok (.aload_n 0, 1) ∧ decode cX12_lastKind 11 = .ok (.iload_n 1, 1) ∧ True := dkl_ok (c := cX12_lastKind) [(.aload_n 0, 1), (.iconst 0, 1), (.putfield 59, 3), (.aload_n 0, 1), (.iconst 0, 1), (.putfield 62, 3), (.aload_n 0, 1), (.iload_n 1, 1)] 0 (by decide +kernel)
theorem dX12_lastKind_0 : decode cX12_lastKind 0 = .ok (.aload_n 0, 1) := eX12_lastKind_0.1
theorem dX12_lastKind_1 : decode cX12_lastKind 1 = .ok (.iconst 0, 1) := eX12_lastKind_0.2.1
theorem dX12_lastKind_2 : decode cX12_lastKind 2 = .ok (.putfield 59, 3) := eX12_lastKind_0.2.2.1
theorem dX12_lastKind_5 : decode cX12_lastKind 5 = .ok (.aload_n 0, 1) := eX12_lastKind_0.2.2.2.1
theorem dX12_lastKind_6 : decode cX12_lastKind 6 = .ok (.iconst 0, 1) := eX12_lastKind_0.2.2.2.2.1
theorem dX12_lastKind_7 : decode cX12_lastKind 7 = .ok (.putfield 62, 3) := eX12_lastKind_0.2.2.2.2.2.1
theorem dX12_lastKind_10 : decode cX12_lastKind 10 = .ok (.aload_n 0, 1) := eX12_lastKind_0.2.2.2.2.2.2.1
theorem dX12_lastKind_11 : decode cX12_lastKind 11 = .ok (.iload_n 1, 1) := eX12_lastKind_0.2.2.2.2.2.2.2.1
theorem eX12_lastKind_12 : decode cX12_lastKind 12 = .ok (.invokevirtual 290, 3) ∧ decode cX12_lastKind 15 = .ok (.ifCond .ne 9, 3) ∧ decode cX12_lastKind 18 = .ok (.aload_n 0, 1) ∧ decode cX12_lastKind 19 = .ok (.iconst 2, 1) ∧ decode cX12_lastKind 20 = .ok (.invokevirtual 284, 3) ∧ decode cX12_lastKind 23 = .ok (.ireturn, 1) ∧ decode cX12_lastKind 24 = .ok (.aload_n 0, 1) ∧ decode cX12_lastKind 25 = .ok (.iload_n 1, 1) ∧ True := dkl_ok (c := cX12_lastKind) [(.invokevirtual 290, 3), (.ifCond .ne 9, 3), (.aload_n 0, 1), (.iconst 2, 1), (.invokevirtual 284, 3), (.ireturn, 1), (.aload_n 0, 1), (.iload_n 1, 1)] 12 (by decide +kernel)
theorem dX12_lastKind_12 : decode cX12_lastKind 12 = .ok (.invokevirtual 290, 3) := eX12_lastKind_12.1
theorem dX12_lastKind_15 : decode cX12_lastKind 15 = .ok (.ifCond .ne 9, 3) := eX12_lastKind_12.2.1
theorem dX12_lastKind_18 : decode cX12_lastKind 18 = .ok (.aload_n 0, 1) := eX12_lastKind_12.2.2.1
theorem dX12_lastKind_19 : decode cX12_lastKind 19 = .ok (.iconst 2, 1) := eX12_lastKind_12.2.2.2.1
theorem dX12_lastKind_20 : decode cX12_lastKind 20 = .ok (.invokevirtual 284, 3) := eX12_lastKind_12.2.2.2.2.1
theorem dX12_lastKind_23 : decode cX12_lastKind 23 = .ok (.ireturn, 1) := eX12_lastKind_12.2.2.2.2.2.1
theorem dX12_lastKind_24 : decode cX12_lastKind 24 = .ok (.aload_n 0, 1) := eX12_lastKind_12.2.2.2.2.2.2.1
theorem dX12_lastKind_25 : decode cX12_lastKind 25 = .ok (.iload_n 1, 1) := eX12_lastKind_12.2.2.2.2.2.2.2.1
theorem eX12_lastKind_26 : decode cX12_lastKind 26 = .ok (.invokevirtual 293, 3) ∧ decode cX12_lastKind 29 = .ok (.ifCond .eq 11, 3) ∧ decode cX12_lastKind 32 = .ok (.aload_n 0, 1) ∧ decode cX12_lastKind 33 = .ok (.iload_n 1, 1) ∧ decode cX12_lastKind 34 = .ok (.invokevirtual 390, 3) ∧ decode cX12_lastKind 37 = .ok (.ifCond .ge 10, 3) ∧ decode cX12_lastKind 40 = .ok (.aload_n 0, 1) ∧ decode cX12_lastKind 41 = .ok (.bipush 8, 2) ∧ True := dkl_ok (c := cX12_lastKind) [(.invokevirtual 293, 3), (.ifCond .eq 11, 3), (.aload_n 0, 1), (.iload_n 1, 1), (.invokevirtual 390, 3), (.ifCond .ge 10, 3), (.aload_n 0, 1), (.bipush 8, 2)] 26 (by decide +kernel)
theorem dX12_lastKind_26 : decode cX12_lastKind 26 = .ok (.invokevirtual 293, 3) := eX12_lastKind_26.1
theorem dX12_lastKind_29 : decode cX12_lastKind 29 = .ok (.ifCond .eq 11, 3) := eX12_lastKind_26.2.1
theorem dX12_lastKind_32 : decode cX12_lastKind 32 = .ok (.aload_n 0, 1) := eX12_lastKind_26.2.2.1
theorem dX12_lastKind_33 : decode cX12_lastKind 33 = .ok (.iload_n 1, 1) := eX12_lastKind_26.2.2.2.1
theorem dX12_lastKind_34 : decode cX12_lastKind 34 = .ok (.invokevirtual 390, 3) := eX12_lastKind_26.2.2.2.2.1
theorem dX12_lastKind_37 : decode cX12_lastKind 37 = .ok (.ifCond .ge 10, 3) := eX12_lastKind_26.2.2.2.2.2.1
theorem dX12_lastKind_40 : decode cX12_lastKind 40 = .ok (.aload_n 0, 1) := eX12_lastKind_26.2.2.2.2.2.2.1
theorem dX12_lastKind_41 : decode cX12_lastKind 41 = .ok (.bipush 8, 2) := eX12_lastKind_26.2.2.2.2.2.2.2.1
theorem eX12_lastKind_43 : decode cX12_lastKind 43 = .ok (.invokevirtual 284, 3) ∧ decode cX12_lastKind 46 = .ok (.ireturn, 1) ∧ decode cX12_lastKind 47 = .ok (.aload_n 0, 1) ∧ decode cX12_lastKind 48 = .ok (.getfield 378, 3) ∧ decode cX12_lastKind 51 = .ok (.ireturn, 1) ∧ True := dkl_ok (c := cX12_lastKind) [(.invokevirtual 284, 3), (.ireturn, 1), (.aload_n 0, 1), (.getfield 378, 3), (.ireturn, 1)] 43 (by decide +kernel)
theorem dX12_lastKind_43 : decode cX12_lastKind 43 = .ok (.invokevirtual 284, 3) := eX12_lastKind_43.1
theorem dX12_lastKind_46 : decode cX12_lastKind 46 = .ok (.ireturn, 1) := eX12_lastKind_43.2.1
theorem dX12_lastKind_47 : decode cX12_lastKind 47 = .ok (.aload_n 0, 1) := eX12_lastKind_43.2.2.1
theorem dX12_lastKind_48 : decode cX12_lastKind 48 = .ok (.getfield 378, 3) := eX12_lastKind_43.2.2.2.1
theorem dX12_lastKind_51 : decode cX12_lastKind 51 = .ok (.ireturn, 1) := eX12_lastKind_43.2.2.2.2.1
theorem eX12_mustLie_0 : decode cX12_mustLie 0 = .ok (.aload_n 0, 1) ∧ decode cX12_mustLie 1 = .ok (.iconst 0, 1) ∧ decode cX12_mustLie 2 = .ok (.putfield 59, 3) ∧ decode cX12_mustLie 5 = .ok (.aload_n 0, 1) ∧ decode cX12_mustLie 6 = .ok (.iconst 0, 1) ∧ decode cX12_mustLie 7 = .ok (.putfield 62, 3) ∧ decode cX12_mustLie 10 = .ok (.aload_n 0, 1) ∧ decode cX12_mustLie 11 = .ok (.iload_n 1, 1) ∧ True := dkl_ok (c := cX12_mustLie) [(.aload_n 0, 1), (.iconst 0, 1), (.putfield 59, 3), (.aload_n 0, 1), (.iconst 0, 1), (.putfield 62, 3), (.aload_n 0, 1), (.iload_n 1, 1)] 0 (by decide +kernel)
theorem dX12_mustLie_0 : decode cX12_mustLie 0 = .ok (.aload_n 0, 1) := eX12_mustLie_0.1
theorem dX12_mustLie_1 : decode cX12_mustLie 1 = .ok (.iconst 0, 1) := eX12_mustLie_0.2.1
theorem dX12_mustLie_2 : decode cX12_mustLie 2 = .ok (.putfield 59, 3) := eX12_mustLie_0.2.2.1
theorem dX12_mustLie_5 : decode cX12_mustLie 5 = .ok (.aload_n 0, 1) := eX12_mustLie_0.2.2.2.1
theorem dX12_mustLie_6 : decode cX12_mustLie 6 = .ok (.iconst 0, 1) := eX12_mustLie_0.2.2.2.2.1
theorem dX12_mustLie_7 : decode cX12_mustLie 7 = .ok (.putfield 62, 3) := eX12_mustLie_0.2.2.2.2.2.1
theorem dX12_mustLie_10 : decode cX12_mustLie 10 = .ok (.aload_n 0, 1) := eX12_mustLie_0.2.2.2.2.2.2.1
theorem dX12_mustLie_11 : decode cX12_mustLie 11 = .ok (.iload_n 1, 1) := eX12_mustLie_0.2.2.2.2.2.2.2.1
theorem eX12_mustLie_12 : decode cX12_mustLie 12 = .ok (.invokevirtual 290, 3) ∧ decode cX12_mustLie 15 = .ok (.ifCond .ne 9, 3) ∧ decode cX12_mustLie 18 = .ok (.aload_n 0, 1) ∧ decode cX12_mustLie 19 = .ok (.iconst 2, 1) ∧ decode cX12_mustLie 20 = .ok (.invokevirtual 284, 3) ∧ decode cX12_mustLie 23 = .ok (.ireturn, 1) ∧ decode cX12_mustLie 24 = .ok (.aload_n 0, 1) ∧ decode cX12_mustLie 25 = .ok (.iload_n 1, 1) ∧ True := dkl_ok (c := cX12_mustLie) [(.invokevirtual 290, 3), (.ifCond .ne 9, 3), (.aload_n 0, 1), (.iconst 2, 1), (.invokevirtual 284, 3), (.ireturn, 1), (.aload_n 0, 1), (.iload_n 1, 1)] 12 (by decide +kernel)
theorem dX12_mustLie_12 : decode cX12_mustLie 12 = .ok (.invokevirtual 290, 3) := eX12_mustLie_12.1
theorem dX12_mustLie_15 : decode cX12_mustLie 15 = .ok (.ifCond .ne 9, 3) := eX12_mustLie_12.2.1
theorem dX12_mustLie_18 : decode cX12_mustLie 18 = .ok (.aload_n 0, 1) := eX12_mustLie_12.2.2.1
theorem dX12_mustLie_19 : decode cX12_mustLie 19 = .ok (.iconst 2, 1) := eX12_mustLie_12.2.2.2.1
theorem dX12_mustLie_20 : decode cX12_mustLie 20 = .ok (.invokevirtual 284, 3) := eX12_mustLie_12.2.2.2.2.1
theorem dX12_mustLie_23 : decode cX12_mustLie 23 = .ok (.ireturn, 1) := eX12_mustLie_12.2.2.2.2.2.1
theorem dX12_mustLie_24 : decode cX12_mustLie 24 = .ok (.aload_n 0, 1) := eX12_mustLie_12.2.2.2.2.2.2.1
theorem dX12_mustLie_25 : decode cX12_mustLie 25 = .ok (.iload_n 1, 1) := eX12_mustLie_12.2.2.2.2.2.2.2.1
theorem eX12_mustLie_26 : decode cX12_mustLie 26 = .ok (.bipush 60, 2) ∧ decode cX12_mustLie 28 = .ok (.invokevirtual 387, 3) ∧ decode cX12_mustLie 31 = .ok (.pop, 1) ∧ decode cX12_mustLie 32 = .ok (.aload_n 0, 1) ∧ decode cX12_mustLie 33 = .ok (.getfield 381, 3) ∧ decode cX12_mustLie 36 = .ok (.ifCond .ge 12, 3) ∧ decode cX12_mustLie 39 = .ok (.aload_n 0, 1) ∧ decode cX12_mustLie 40 = .ok (.bipush 8, 2) ∧ True := dkl_ok (c := cX12_mustLie) [(.bipush 60, 2), (.invokevirtual 387, 3), (.pop, 1), (.aload_n 0, 1), (.getfield 381, 3), (.ifCond .ge 12, 3), (.aload_n 0, 1), (.bipush 8, 2)] 26 (by decide +kernel)
theorem dX12_mustLie_26 : decode cX12_mustLie 26 = .ok (.bipush 60, 2) := eX12_mustLie_26.1
theorem dX12_mustLie_28 : decode cX12_mustLie 28 = .ok (.invokevirtual 387, 3) := eX12_mustLie_26.2.1
theorem dX12_mustLie_31 : decode cX12_mustLie 31 = .ok (.pop, 1) := eX12_mustLie_26.2.2.1
theorem dX12_mustLie_32 : decode cX12_mustLie 32 = .ok (.aload_n 0, 1) := eX12_mustLie_26.2.2.2.1
theorem dX12_mustLie_33 : decode cX12_mustLie 33 = .ok (.getfield 381, 3) := eX12_mustLie_26.2.2.2.2.1
theorem dX12_mustLie_36 : decode cX12_mustLie 36 = .ok (.ifCond .ge 12, 3) := eX12_mustLie_26.2.2.2.2.2.1
theorem dX12_mustLie_39 : decode cX12_mustLie 39 = .ok (.aload_n 0, 1) := eX12_mustLie_26.2.2.2.2.2.2.1
theorem dX12_mustLie_40 : decode cX12_mustLie 40 = .ok (.bipush 8, 2) := eX12_mustLie_26.2.2.2.2.2.2.2.1
theorem eX12_mustLie_42 : decode cX12_mustLie 42 = .ok (.invokevirtual 284, 3) ∧ decode cX12_mustLie 45 = .ok (.goto 7, 3) ∧ decode cX12_mustLie 48 = .ok (.aload_n 0, 1) ∧ decode cX12_mustLie 49 = .ok (.getfield 381, 3) ∧ decode cX12_mustLie 52 = .ok (.ireturn, 1) ∧ True := dkl_ok (c := cX12_mustLie) [(.invokevirtual 284, 3), (.goto 7, 3), (.aload_n 0, 1), (.getfield 381, 3), (.ireturn, 1)] 42 (by decide +kernel)
theorem dX12_mustLie_42 : decode cX12_mustLie 42 = .ok (.invokevirtual 284, 3) := eX12_mustLie_42.1
theorem dX12_mustLie_45 : decode cX12_mustLie 45 = .ok (.goto 7, 3) := eX12_mustLie_42.2.1
theorem dX12_mustLie_48 : decode cX12_mustLie 48 = .ok (.aload_n 0, 1) := eX12_mustLie_42.2.2.1
theorem dX12_mustLie_49 : decode cX12_mustLie 49 = .ok (.getfield 381, 3) := eX12_mustLie_42.2.2.2.1
theorem dX12_mustLie_52 : decode cX12_mustLie 52 = .ok (.ireturn, 1) := eX12_mustLie_42.2.2.2.2.1
theorem eX12_soonest_0 : decode cX12_soonest 0 = .ok (.aload_n 0, 1) ∧ decode cX12_soonest 1 = .ok (.iconst 0, 1) ∧ decode cX12_soonest 2 = .ok (.putfield 59, 3) ∧ decode cX12_soonest 5 = .ok (.aload_n 0, 1) ∧ decode cX12_soonest 6 = .ok (.iconst 0, 1) ∧ decode cX12_soonest 7 = .ok (.putfield 62, 3) ∧ decode cX12_soonest 10 = .ok (.iconst (-1), 1) ∧ decode cX12_soonest 11 = .ok (.istore_n 1, 1) ∧ True := dkl_ok (c := cX12_soonest) [(.aload_n 0, 1), (.iconst 0, 1), (.putfield 59, 3), (.aload_n 0, 1), (.iconst 0, 1), (.putfield 62, 3), (.iconst (-1), 1), (.istore_n 1, 1)] 0 (by decide +kernel)
theorem dX12_soonest_0 : decode cX12_soonest 0 = .ok (.aload_n 0, 1) := eX12_soonest_0.1
theorem dX12_soonest_1 : decode cX12_soonest 1 = .ok (.iconst 0, 1) := eX12_soonest_0.2.1
theorem dX12_soonest_2 : decode cX12_soonest 2 = .ok (.putfield 59, 3) := eX12_soonest_0.2.2.1
theorem dX12_soonest_5 : decode cX12_soonest 5 = .ok (.aload_n 0, 1) := eX12_soonest_0.2.2.2.1
theorem dX12_soonest_6 : decode cX12_soonest 6 = .ok (.iconst 0, 1) := eX12_soonest_0.2.2.2.2.1
theorem dX12_soonest_7 : decode cX12_soonest 7 = .ok (.putfield 62, 3) := eX12_soonest_0.2.2.2.2.2.1
theorem dX12_soonest_10 : decode cX12_soonest 10 = .ok (.iconst (-1), 1) := eX12_soonest_0.2.2.2.2.2.2.1
theorem dX12_soonest_11 : decode cX12_soonest 11 = .ok (.istore_n 1, 1) := eX12_soonest_0.2.2.2.2.2.2.2.1
theorem eX12_soonest_12 : decode cX12_soonest 12 = .ok (.bipush 99, 2) ∧ decode cX12_soonest 14 = .ok (.istore_n 2, 1) ∧ decode cX12_soonest 15 = .ok (.iconst 0, 1) ∧ decode cX12_soonest 16 = .ok (.istore_n 3, 1) ∧ decode cX12_soonest 17 = .ok (.iload_n 3, 1) ∧ decode cX12_soonest 18 = .ok (.aload_n 0, 1) ∧ decode cX12_soonest 19 = .ok (.getfield 35, 3) ∧ decode cX12_soonest 22 = .ok (.iconst 2, 1) ∧ True := dkl_ok (c := cX12_soonest) [(.bipush 99, 2), (.istore_n 2, 1), (.iconst 0, 1), (.istore_n 3, 1), (.iload_n 3, 1), (.aload_n 0, 1), (.getfield 35, 3), (.iconst 2, 1)] 12 (by decide +kernel)
theorem dX12_soonest_12 : decode cX12_soonest 12 = .ok (.bipush 99, 2) := eX12_soonest_12.1
theorem dX12_soonest_14 : decode cX12_soonest 14 = .ok (.istore_n 2, 1) := eX12_soonest_12.2.1
theorem dX12_soonest_15 : decode cX12_soonest 15 = .ok (.iconst 0, 1) := eX12_soonest_12.2.2.1
theorem dX12_soonest_16 : decode cX12_soonest 16 = .ok (.istore_n 3, 1) := eX12_soonest_12.2.2.2.1
theorem dX12_soonest_17 : decode cX12_soonest 17 = .ok (.iload_n 3, 1) := eX12_soonest_12.2.2.2.2.1
theorem dX12_soonest_18 : decode cX12_soonest 18 = .ok (.aload_n 0, 1) := eX12_soonest_12.2.2.2.2.2.1
theorem dX12_soonest_19 : decode cX12_soonest 19 = .ok (.getfield 35, 3) := eX12_soonest_12.2.2.2.2.2.2.1
theorem dX12_soonest_22 : decode cX12_soonest 22 = .ok (.iconst 2, 1) := eX12_soonest_12.2.2.2.2.2.2.2.1
theorem eX12_soonest_23 : decode cX12_soonest 23 = .ok (.iaload, 1) ∧ decode cX12_soonest 24 = .ok (.if_icmp .ge 35, 3) ∧ decode cX12_soonest 27 = .ok (.aload_n 0, 1) ∧ decode cX12_soonest 28 = .ok (.iload_n 3, 1) ∧ decode cX12_soonest 29 = .ok (.invokevirtual 390, 3) ∧ decode cX12_soonest 32 = .ok (.istore 4, 2) ∧ decode cX12_soonest 34 = .ok (.iload 4, 2) ∧ decode cX12_soonest 36 = .ok (.ifCond .lt 17, 3) ∧ True := dkl_ok (c := cX12_soonest) [(.iaload, 1), (.if_icmp .ge 35, 3), (.aload_n 0, 1), (.iload_n 3, 1), (.invokevirtual 390, 3), (.istore 4, 2), (.iload 4, 2), (.ifCond .lt 17, 3)] 23 (by decide +kernel)
theorem dX12_soonest_23 : decode cX12_soonest 23 = .ok (.iaload, 1) := eX12_soonest_23.1
theorem dX12_soonest_24 : decode cX12_soonest 24 = .ok (.if_icmp .ge 35, 3) := eX12_soonest_23.2.1
theorem dX12_soonest_27 : decode cX12_soonest 27 = .ok (.aload_n 0, 1) := eX12_soonest_23.2.2.1
theorem dX12_soonest_28 : decode cX12_soonest 28 = .ok (.iload_n 3, 1) := eX12_soonest_23.2.2.2.1
theorem dX12_soonest_29 : decode cX12_soonest 29 = .ok (.invokevirtual 390, 3) := eX12_soonest_23.2.2.2.2.1
theorem dX12_soonest_32 : decode cX12_soonest 32 = .ok (.istore 4, 2) := eX12_soonest_23.2.2.2.2.2.1
theorem dX12_soonest_34 : decode cX12_soonest 34 = .ok (.iload 4, 2) := eX12_soonest_23.2.2.2.2.2.2.1
theorem dX12_soonest_36 : decode cX12_soonest 36 = .ok (.ifCond .lt 17, 3) := eX12_soonest_23.2.2.2.2.2.2.2.1
theorem eX12_soonest_39 : decode cX12_soonest 39 = .ok (.iload 4, 2) ∧ decode cX12_soonest 41 = .ok (.iload_n 2, 1) ∧ decode cX12_soonest 42 = .ok (.if_icmp .lt 6, 3) ∧ decode cX12_soonest 45 = .ok (.goto 8, 3) ∧ decode cX12_soonest 48 = .ok (.iload_n 3, 1) ∧ decode cX12_soonest 49 = .ok (.istore_n 1, 1) ∧ decode cX12_soonest 50 = .ok (.iload 4, 2) ∧ decode cX12_soonest 52 = .ok (.istore_n 2, 1) ∧ True := dkl_ok (c := cX12_soonest) [(.iload 4, 2), (.iload_n 2, 1), (.if_icmp .lt 6, 3), (.goto 8, 3), (.iload_n 3, 1), (.istore_n 1, 1), (.iload 4, 2), (.istore_n 2, 1)] 39 (by decide +kernel)
theorem dX12_soonest_39 : decode cX12_soonest 39 = .ok (.iload 4, 2) := eX12_soonest_39.1
theorem dX12_soonest_41 : decode cX12_soonest 41 = .ok (.iload_n 2, 1) := eX12_soonest_39.2.1
theorem dX12_soonest_42 : decode cX12_soonest 42 = .ok (.if_icmp .lt 6, 3) := eX12_soonest_39.2.2.1
theorem dX12_soonest_45 : decode cX12_soonest 45 = .ok (.goto 8, 3) := eX12_soonest_39.2.2.2.1
theorem dX12_soonest_48 : decode cX12_soonest 48 = .ok (.iload_n 3, 1) := eX12_soonest_39.2.2.2.2.1
theorem dX12_soonest_49 : decode cX12_soonest 49 = .ok (.istore_n 1, 1) := eX12_soonest_39.2.2.2.2.2.1
theorem dX12_soonest_50 : decode cX12_soonest 50 = .ok (.iload 4, 2) := eX12_soonest_39.2.2.2.2.2.2.1
theorem dX12_soonest_52 : decode cX12_soonest 52 = .ok (.istore_n 2, 1) := eX12_soonest_39.2.2.2.2.2.2.2.1
theorem eX12_soonest_53 : decode cX12_soonest 53 = .ok (.iinc 3 1, 3) ∧ decode cX12_soonest 56 = .ok (.goto (-39), 3) ∧ decode cX12_soonest 59 = .ok (.iload_n 1, 1) ∧ decode cX12_soonest 60 = .ok (.ifCond .ge 12, 3) ∧ decode cX12_soonest 63 = .ok (.aload_n 0, 1) ∧ decode cX12_soonest 64 = .ok (.bipush 8, 2) ∧ decode cX12_soonest 66 = .ok (.invokevirtual 284, 3) ∧ decode cX12_soonest 69 = .ok (.goto 4, 3) ∧ True := dkl_ok (c := cX12_soonest) [(.iinc 3 1, 3), (.goto (-39), 3), (.iload_n 1, 1), (.ifCond .ge 12, 3), (.aload_n 0, 1), (.bipush 8, 2), (.invokevirtual 284, 3), (.goto 4, 3)] 53 (by decide +kernel)
theorem dX12_soonest_53 : decode cX12_soonest 53 = .ok (.iinc 3 1, 3) := eX12_soonest_53.1
theorem dX12_soonest_56 : decode cX12_soonest 56 = .ok (.goto (-39), 3) := eX12_soonest_53.2.1
theorem dX12_soonest_59 : decode cX12_soonest 59 = .ok (.iload_n 1, 1) := eX12_soonest_53.2.2.1
theorem dX12_soonest_60 : decode cX12_soonest 60 = .ok (.ifCond .ge 12, 3) := eX12_soonest_53.2.2.2.1
theorem dX12_soonest_63 : decode cX12_soonest 63 = .ok (.aload_n 0, 1) := eX12_soonest_53.2.2.2.2.1
theorem dX12_soonest_64 : decode cX12_soonest 64 = .ok (.bipush 8, 2) := eX12_soonest_53.2.2.2.2.2.1
theorem dX12_soonest_66 : decode cX12_soonest 66 = .ok (.invokevirtual 284, 3) := eX12_soonest_53.2.2.2.2.2.2.1
theorem dX12_soonest_69 : decode cX12_soonest 69 = .ok (.goto 4, 3) := eX12_soonest_53.2.2.2.2.2.2.2.1
theorem eX12_soonest_72 : decode cX12_soonest 72 = .ok (.iload_n 1, 1) ∧ decode cX12_soonest 73 = .ok (.ireturn, 1) ∧ True := dkl_ok (c := cX12_soonest) [(.iload_n 1, 1), (.ireturn, 1)] 72 (by decide +kernel)
theorem dX12_soonest_72 : decode cX12_soonest 72 = .ok (.iload_n 1, 1) := eX12_soonest_72.1
theorem dX12_soonest_73 : decode cX12_soonest 73 = .ok (.ireturn, 1) := eX12_soonest_72.2.1
theorem eX12_best_0 : decode cX12_best 0 = .ok (.aload_n 0, 1) ∧ decode cX12_best 1 = .ok (.iconst 0, 1) ∧ decode cX12_best 2 = .ok (.putfield 59, 3) ∧ decode cX12_best 5 = .ok (.aload_n 0, 1) ∧ decode cX12_best 6 = .ok (.iconst 0, 1) ∧ decode cX12_best 7 = .ok (.putfield 62, 3) ∧ decode cX12_best 10 = .ok (.iload_n 1, 1) ∧ decode cX12_best 11 = .ok (.i2l, 1) ∧ True := dkl_ok (c := cX12_best) [(.aload_n 0, 1), (.iconst 0, 1), (.putfield 59, 3), (.aload_n 0, 1), (.iconst 0, 1), (.putfield 62, 3), (.iload_n 1, 1), (.i2l, 1)] 0 (by decide +kernel)
theorem dX12_best_0 : decode cX12_best 0 = .ok (.aload_n 0, 1) := eX12_best_0.1
theorem dX12_best_1 : decode cX12_best 1 = .ok (.iconst 0, 1) := eX12_best_0.2.1
theorem dX12_best_2 : decode cX12_best 2 = .ok (.putfield 59, 3) := eX12_best_0.2.2.1
theorem dX12_best_5 : decode cX12_best 5 = .ok (.aload_n 0, 1) := eX12_best_0.2.2.2.1
theorem dX12_best_6 : decode cX12_best 6 = .ok (.iconst 0, 1) := eX12_best_0.2.2.2.2.1
theorem dX12_best_7 : decode cX12_best 7 = .ok (.putfield 62, 3) := eX12_best_0.2.2.2.2.2.1
theorem dX12_best_10 : decode cX12_best 10 = .ok (.iload_n 1, 1) := eX12_best_0.2.2.2.2.2.2.1
theorem dX12_best_11 : decode cX12_best 11 = .ok (.i2l, 1) := eX12_best_0.2.2.2.2.2.2.2.1
theorem eX12_best_12 : decode cX12_best 12 = .ok (.lconst 0, 1) ∧ decode cX12_best 13 = .ok (.ldc2_w 331, 3) ∧ decode cX12_best 16 = .ok (.invokestatic 94, 3) ∧ decode cX12_best 19 = .ok (.ifCond .eq 13, 3) ∧ decode cX12_best 22 = .ok (.iload_n 2, 1) ∧ decode cX12_best 23 = .ok (.i2l, 1) ∧ decode cX12_best 24 = .ok (.lconst 0, 1) ∧ decode cX12_best 25 = .ok (.lconst 1, 1) ∧ True := dkl_ok (c := cX12_best) [(.lconst 0, 1), (.ldc2_w 331, 3), (.invokestatic 94, 3), (.ifCond .eq 13, 3), (.iload_n 2, 1), (.i2l, 1), (.lconst 0, 1), (.lconst 1, 1)] 12 (by decide +kernel)
theorem dX12_best_12 : decode cX12_best 12 = .ok (.lconst 0, 1) := eX12_best_12.1
theorem dX12_best_13 : decode cX12_best 13 = .ok (.ldc2_w 331, 3) := eX12_best_12.2.1
theorem dX12_best_16 : decode cX12_best 16 = .ok (.invokestatic 94, 3) := eX12_best_12.2.2.1
theorem dX12_best_19 : decode cX12_best 19 = .ok (.ifCond .eq 13, 3) := eX12_best_12.2.2.2.1
theorem dX12_best_22 : decode cX12_best 22 = .ok (.iload_n 2, 1) := eX12_best_12.2.2.2.2.1
theorem dX12_best_23 : decode cX12_best 23 = .ok (.i2l, 1) := eX12_best_12.2.2.2.2.2.1
theorem dX12_best_24 : decode cX12_best 24 = .ok (.lconst 0, 1) := eX12_best_12.2.2.2.2.2.2.1
theorem dX12_best_25 : decode cX12_best 25 = .ok (.lconst 1, 1) := eX12_best_12.2.2.2.2.2.2.2.1
theorem eX12_best_26 : decode cX12_best 26 = .ok (.invokestatic 94, 3) ∧ decode cX12_best 29 = .ok (.ifCond .ne 9, 3) ∧ decode cX12_best 32 = .ok (.aload_n 0, 1) ∧ decode cX12_best 33 = .ok (.iconst 5, 1) ∧ decode cX12_best 34 = .ok (.invokevirtual 284, 3) ∧ decode cX12_best 37 = .ok (.ireturn, 1) ∧ decode cX12_best 38 = .ok (.aload_n 0, 1) ∧ decode cX12_best 39 = .ok (.getfield 35, 3) ∧ True := dkl_ok (c := cX12_best) [(.invokestatic 94, 3), (.ifCond .ne 9, 3), (.aload_n 0, 1), (.iconst 5, 1), (.invokevirtual 284, 3), (.ireturn, 1), (.aload_n 0, 1), (.getfield 35, 3)] 26 (by decide +kernel)
theorem dX12_best_26 : decode cX12_best 26 = .ok (.invokestatic 94, 3) := eX12_best_26.1
theorem dX12_best_29 : decode cX12_best 29 = .ok (.ifCond .ne 9, 3) := eX12_best_26.2.1
theorem dX12_best_32 : decode cX12_best 32 = .ok (.aload_n 0, 1) := eX12_best_26.2.2.1
theorem dX12_best_33 : decode cX12_best 33 = .ok (.iconst 5, 1) := eX12_best_26.2.2.2.1
theorem dX12_best_34 : decode cX12_best 34 = .ok (.invokevirtual 284, 3) := eX12_best_26.2.2.2.2.1
theorem dX12_best_37 : decode cX12_best 37 = .ok (.ireturn, 1) := eX12_best_26.2.2.2.2.2.1
theorem dX12_best_38 : decode cX12_best 38 = .ok (.aload_n 0, 1) := eX12_best_26.2.2.2.2.2.2.1
theorem dX12_best_39 : decode cX12_best 39 = .ok (.getfield 35, 3) := eX12_best_26.2.2.2.2.2.2.2.1
theorem eX12_best_42 : decode cX12_best 42 = .ok (.bipush 6, 2) ∧ decode cX12_best 44 = .ok (.iaload, 1) ∧ decode cX12_best 45 = .ok (.ifCond .ge 10, 3) ∧ decode cX12_best 48 = .ok (.aload_n 0, 1) ∧ decode cX12_best 49 = .ok (.bipush 8, 2) ∧ decode cX12_best 51 = .ok (.invokevirtual 284, 3) ∧ decode cX12_best 54 = .ok (.ireturn, 1) ∧ decode cX12_best 55 = .ok (.aload_n 0, 1) ∧ True := dkl_ok (c := cX12_best) [(.bipush 6, 2), (.iaload, 1), (.ifCond .ge 10, 3), (.aload_n 0, 1), (.bipush 8, 2), (.invokevirtual 284, 3), (.ireturn, 1), (.aload_n 0, 1)] 42 (by decide +kernel)
theorem dX12_best_42 : decode cX12_best 42 = .ok (.bipush 6, 2) := eX12_best_42.1
theorem dX12_best_44 : decode cX12_best 44 = .ok (.iaload, 1) := eX12_best_42.2.1
theorem dX12_best_45 : decode cX12_best 45 = .ok (.ifCond .ge 10, 3) := eX12_best_42.2.2.1
theorem dX12_best_48 : decode cX12_best 48 = .ok (.aload_n 0, 1) := eX12_best_42.2.2.2.1
theorem dX12_best_49 : decode cX12_best 49 = .ok (.bipush 8, 2) := eX12_best_42.2.2.2.2.1
theorem dX12_best_51 : decode cX12_best 51 = .ok (.invokevirtual 284, 3) := eX12_best_42.2.2.2.2.2.1
theorem dX12_best_54 : decode cX12_best 54 = .ok (.ireturn, 1) := eX12_best_42.2.2.2.2.2.2.1
theorem dX12_best_55 : decode cX12_best 55 = .ok (.aload_n 0, 1) := eX12_best_42.2.2.2.2.2.2.2.1
theorem eX12_best_56 : decode cX12_best 56 = .ok (.getfield 35, 3) ∧ decode cX12_best 59 = .ok (.bipush 6, 2) ∧ decode cX12_best 61 = .ok (.iaload, 1) ∧ decode cX12_best 62 = .ok (.istore_n 3, 1) ∧ decode cX12_best 63 = .ok (.aload_n 0, 1) ∧ decode cX12_best 64 = .ok (.iload_n 3, 1) ∧ decode cX12_best 65 = .ok (.invokevirtual 293, 3) ∧ decode cX12_best 68 = .ok (.istore 4, 2) ∧ True := dkl_ok (c := cX12_best) [(.getfield 35, 3), (.bipush 6, 2), (.iaload, 1), (.istore_n 3, 1), (.aload_n 0, 1), (.iload_n 3, 1), (.invokevirtual 293, 3), (.istore 4, 2)] 56 (by decide +kernel)
theorem dX12_best_56 : decode cX12_best 56 = .ok (.getfield 35, 3) := eX12_best_56.1
theorem dX12_best_59 : decode cX12_best 59 = .ok (.bipush 6, 2) := eX12_best_56.2.1
theorem dX12_best_61 : decode cX12_best 61 = .ok (.iaload, 1) := eX12_best_56.2.2.1
theorem dX12_best_62 : decode cX12_best 62 = .ok (.istore_n 3, 1) := eX12_best_56.2.2.2.1
theorem dX12_best_63 : decode cX12_best 63 = .ok (.aload_n 0, 1) := eX12_best_56.2.2.2.2.1
theorem dX12_best_64 : decode cX12_best 64 = .ok (.iload_n 3, 1) := eX12_best_56.2.2.2.2.2.1
theorem dX12_best_65 : decode cX12_best 65 = .ok (.invokevirtual 293, 3) := eX12_best_56.2.2.2.2.2.2.1
theorem dX12_best_68 : decode cX12_best 68 = .ok (.istore 4, 2) := eX12_best_56.2.2.2.2.2.2.2.1
theorem eX12_best_70 : decode cX12_best 70 = .ok (.aload_n 0, 1) ∧ decode cX12_best 71 = .ok (.getfield 35, 3) ∧ decode cX12_best 74 = .ok (.bipush 7, 2) ∧ decode cX12_best 76 = .ok (.iaload, 1) ∧ decode cX12_best 77 = .ok (.iconst 1, 1) ∧ decode cX12_best 78 = .ok (.if_icmp .eq 18, 3) ∧ decode cX12_best 81 = .ok (.aload_n 0, 1) ∧ decode cX12_best 82 = .ok (.getfield 35, 3) ∧ True := dkl_ok (c := cX12_best) [(.aload_n 0, 1), (.getfield 35, 3), (.bipush 7, 2), (.iaload, 1), (.iconst 1, 1), (.if_icmp .eq 18, 3), (.aload_n 0, 1), (.getfield 35, 3)] 70 (by decide +kernel)
theorem dX12_best_70 : decode cX12_best 70 = .ok (.aload_n 0, 1) := eX12_best_70.1
theorem dX12_best_71 : decode cX12_best 71 = .ok (.getfield 35, 3) := eX12_best_70.2.1
theorem dX12_best_74 : decode cX12_best 74 = .ok (.bipush 7, 2) := eX12_best_70.2.2.1
theorem dX12_best_76 : decode cX12_best 76 = .ok (.iaload, 1) := eX12_best_70.2.2.2.1
theorem dX12_best_77 : decode cX12_best 77 = .ok (.iconst 1, 1) := eX12_best_70.2.2.2.2.1
theorem dX12_best_78 : decode cX12_best 78 = .ok (.if_icmp .eq 18, 3) := eX12_best_70.2.2.2.2.2.1
theorem dX12_best_81 : decode cX12_best 81 = .ok (.aload_n 0, 1) := eX12_best_70.2.2.2.2.2.2.1
theorem dX12_best_82 : decode cX12_best 82 = .ok (.getfield 35, 3) := eX12_best_70.2.2.2.2.2.2.2.1
theorem eX12_best_85 : decode cX12_best 85 = .ok (.bipush 8, 2) ∧ decode cX12_best 87 = .ok (.iaload, 1) ∧ decode cX12_best 88 = .ok (.ifCond .ge 8, 3) ∧ decode cX12_best 91 = .ok (.iload 4, 2) ∧ decode cX12_best 93 = .ok (.ifCond .ne 10, 3) ∧ decode cX12_best 96 = .ok (.aload_n 0, 1) ∧ decode cX12_best 97 = .ok (.bipush 9, 2) ∧ decode cX12_best 99 = .ok (.invokevirtual 284, 3) ∧ True := dkl_ok (c := cX12_best) [(.bipush 8, 2), (.iaload, 1), (.ifCond .ge 8, 3), (.iload 4, 2), (.ifCond .ne 10, 3), (.aload_n 0, 1), (.bipush 9, 2), (.invokevirtual 284, 3)] 85 (by decide +kernel)
theorem dX12_best_85 : decode cX12_best 85 = .ok (.bipush 8, 2) := eX12_best_85.1
theorem dX12_best_87 : decode cX12_best 87 = .ok (.iaload, 1) := eX12_best_85.2.1
theorem dX12_best_88 : decode cX12_best 88 = .ok (.ifCond .ge 8, 3) := eX12_best_85.2.2.1
theorem dX12_best_91 : decode cX12_best 91 = .ok (.iload 4, 2) := eX12_best_85.2.2.2.1
theorem dX12_best_93 : decode cX12_best 93 = .ok (.ifCond .ne 10, 3) := eX12_best_85.2.2.2.2.1
theorem dX12_best_96 : decode cX12_best 96 = .ok (.aload_n 0, 1) := eX12_best_85.2.2.2.2.2.1
theorem dX12_best_97 : decode cX12_best 97 = .ok (.bipush 9, 2) := eX12_best_85.2.2.2.2.2.2.1
theorem dX12_best_99 : decode cX12_best 99 = .ok (.invokevirtual 284, 3) := eX12_best_85.2.2.2.2.2.2.2.1
theorem eX12_best_102 : decode cX12_best 102 = .ok (.ireturn, 1) ∧ decode cX12_best 103 = .ok (.aload_n 0, 1) ∧ decode cX12_best 104 = .ok (.iload_n 3, 1) ∧ decode cX12_best 105 = .ok (.aload_n 0, 1) ∧ decode cX12_best 106 = .ok (.getfield 35, 3) ∧ decode cX12_best 109 = .ok (.iconst 5, 1) ∧ decode cX12_best 110 = .ok (.iaload, 1) ∧ decode cX12_best 111 = .ok (.invokevirtual 276, 3) ∧ True := dkl_ok (c := cX12_best) [(.ireturn, 1), (.aload_n 0, 1), (.iload_n 3, 1), (.aload_n 0, 1), (.getfield 35, 3), (.iconst 5, 1), (.iaload, 1), (.invokevirtual 276, 3)] 102 (by decide +kernel)
theorem dX12_best_102 : decode cX12_best 102 = .ok (.ireturn, 1) := eX12_best_102.1
theorem dX12_best_103 : decode cX12_best 103 = .ok (.aload_n 0, 1) := eX12_best_102.2.1
theorem dX12_best_104 : decode cX12_best 104 = .ok (.iload_n 3, 1) := eX12_best_102.2.2.1
theorem dX12_best_105 : decode cX12_best 105 = .ok (.aload_n 0, 1) := eX12_best_102.2.2.2.1
theorem dX12_best_106 : decode cX12_best 106 = .ok (.getfield 35, 3) := eX12_best_102.2.2.2.2.1
theorem dX12_best_109 : decode cX12_best 109 = .ok (.iconst 5, 1) := eX12_best_102.2.2.2.2.2.1
theorem dX12_best_110 : decode cX12_best 110 = .ok (.iaload, 1) := eX12_best_102.2.2.2.2.2.2.1
theorem dX12_best_111 : decode cX12_best 111 = .ok (.invokevirtual 276, 3) := eX12_best_102.2.2.2.2.2.2.2.1
theorem eX12_best_114 : decode cX12_best 114 = .ok (.istore 5, 2) ∧ decode cX12_best 116 = .ok (.aload_n 0, 1) ∧ decode cX12_best 117 = .ok (.invokevirtual 287, 3) ∧ decode cX12_best 120 = .ok (.istore 6, 2) ∧ decode cX12_best 122 = .ok (.iconst (-1), 1) ∧ decode cX12_best 123 = .ok (.istore 7, 2) ∧ decode cX12_best 125 = .ok (.iconst 0, 1) ∧ decode cX12_best 126 = .ok (.istore 8, 2) ∧ True := dkl_ok (c := cX12_best) [(.istore 5, 2), (.aload_n 0, 1), (.invokevirtual 287, 3), (.istore 6, 2), (.iconst (-1), 1), (.istore 7, 2), (.iconst 0, 1), (.istore 8, 2)] 114 (by decide +kernel)
theorem dX12_best_114 : decode cX12_best 114 = .ok (.istore 5, 2) := eX12_best_114.1
theorem dX12_best_116 : decode cX12_best 116 = .ok (.aload_n 0, 1) := eX12_best_114.2.1
theorem dX12_best_117 : decode cX12_best 117 = .ok (.invokevirtual 287, 3) := eX12_best_114.2.2.1
theorem dX12_best_120 : decode cX12_best 120 = .ok (.istore 6, 2) := eX12_best_114.2.2.2.1
theorem dX12_best_122 : decode cX12_best 122 = .ok (.iconst (-1), 1) := eX12_best_114.2.2.2.2.1
theorem dX12_best_123 : decode cX12_best 123 = .ok (.istore 7, 2) := eX12_best_114.2.2.2.2.2.1
theorem dX12_best_125 : decode cX12_best 125 = .ok (.iconst 0, 1) := eX12_best_114.2.2.2.2.2.2.1
theorem dX12_best_126 : decode cX12_best 126 = .ok (.istore 8, 2) := eX12_best_114.2.2.2.2.2.2.2.1
theorem eX12_best_128 : decode cX12_best 128 = .ok (.iconst 0, 1) ∧ decode cX12_best 129 = .ok (.istore 9, 2) ∧ decode cX12_best 131 = .ok (.iconst 0, 1) ∧ decode cX12_best 132 = .ok (.istore 10, 2) ∧ decode cX12_best 134 = .ok (.iload 10, 2) ∧ decode cX12_best 136 = .ok (.aload_n 0, 1) ∧ decode cX12_best 137 = .ok (.getfield 35, 3) ∧ decode cX12_best 140 = .ok (.iconst 4, 1) ∧ True := dkl_ok (c := cX12_best) [(.iconst 0, 1), (.istore 9, 2), (.iconst 0, 1), (.istore 10, 2), (.iload 10, 2), (.aload_n 0, 1), (.getfield 35, 3), (.iconst 4, 1)] 128 (by decide +kernel)
theorem dX12_best_128 : decode cX12_best 128 = .ok (.iconst 0, 1) := eX12_best_128.1
theorem dX12_best_129 : decode cX12_best 129 = .ok (.istore 9, 2) := eX12_best_128.2.1
theorem dX12_best_131 : decode cX12_best 131 = .ok (.iconst 0, 1) := eX12_best_128.2.2.1
theorem dX12_best_132 : decode cX12_best 132 = .ok (.istore 10, 2) := eX12_best_128.2.2.2.1
theorem dX12_best_134 : decode cX12_best 134 = .ok (.iload 10, 2) := eX12_best_128.2.2.2.2.1
theorem dX12_best_136 : decode cX12_best 136 = .ok (.aload_n 0, 1) := eX12_best_128.2.2.2.2.2.1
theorem dX12_best_137 : decode cX12_best 137 = .ok (.getfield 35, 3) := eX12_best_128.2.2.2.2.2.2.1
theorem dX12_best_140 : decode cX12_best 140 = .ok (.iconst 4, 1) := eX12_best_128.2.2.2.2.2.2.2.1
theorem eX12_best_141 : decode cX12_best 141 = .ok (.iaload, 1) ∧ decode cX12_best 142 = .ok (.iload 4, 2) ∧ decode cX12_best 144 = .ok (.iload 5, 2) ∧ decode cX12_best 146 = .ok (.isub, 1) ∧ decode cX12_best 147 = .ok (.invokestatic 384, 3) ∧ decode cX12_best 150 = .ok (.if_icmp .gt 113, 3) ∧ decode cX12_best 153 = .ok (.aload_n 0, 1) ∧ decode cX12_best 154 = .ok (.getfield 35, 3) ∧ True := dkl_ok (c := cX12_best) [(.iaload, 1), (.iload 4, 2), (.iload 5, 2), (.isub, 1), (.invokestatic 384, 3), (.if_icmp .gt 113, 3), (.aload_n 0, 1), (.getfield 35, 3)] 141 (by decide +kernel)
theorem dX12_best_141 : decode cX12_best 141 = .ok (.iaload, 1) := eX12_best_141.1
theorem dX12_best_142 : decode cX12_best 142 = .ok (.iload 4, 2) := eX12_best_141.2.1
theorem dX12_best_144 : decode cX12_best 144 = .ok (.iload 5, 2) := eX12_best_141.2.2.1
theorem dX12_best_146 : decode cX12_best 146 = .ok (.isub, 1) := eX12_best_141.2.2.2.1
theorem dX12_best_147 : decode cX12_best 147 = .ok (.invokestatic 384, 3) := eX12_best_141.2.2.2.2.1
theorem dX12_best_150 : decode cX12_best 150 = .ok (.if_icmp .gt 113, 3) := eX12_best_141.2.2.2.2.2.1
theorem dX12_best_153 : decode cX12_best 153 = .ok (.aload_n 0, 1) := eX12_best_141.2.2.2.2.2.2.1
theorem dX12_best_154 : decode cX12_best 154 = .ok (.getfield 35, 3) := eX12_best_141.2.2.2.2.2.2.2.1
theorem eX12_best_157 : decode cX12_best 157 = .ok (.iconst 4, 1) ∧ decode cX12_best 158 = .ok (.iaload, 1) ∧ decode cX12_best 159 = .ok (.iload 10, 2) ∧ decode cX12_best 161 = .ok (.isub, 1) ∧ decode cX12_best 162 = .ok (.iload 5, 2) ∧ decode cX12_best 164 = .ok (.invokestatic 384, 3) ∧ decode cX12_best 167 = .ok (.istore 11, 2) ∧ decode cX12_best 169 = .ok (.iload 11, 2) ∧ True := dkl_ok (c := cX12_best) [(.iconst 4, 1), (.iaload, 1), (.iload 10, 2), (.isub, 1), (.iload 5, 2), (.invokestatic 384, 3), (.istore 11, 2), (.iload 11, 2)] 157 (by decide +kernel)
theorem dX12_best_157 : decode cX12_best 157 = .ok (.iconst 4, 1) := eX12_best_157.1
theorem dX12_best_158 : decode cX12_best 158 = .ok (.iaload, 1) := eX12_best_157.2.1
theorem dX12_best_159 : decode cX12_best 159 = .ok (.iload 10, 2) := eX12_best_157.2.2.1
theorem dX12_best_161 : decode cX12_best 161 = .ok (.isub, 1) := eX12_best_157.2.2.2.1
theorem dX12_best_162 : decode cX12_best 162 = .ok (.iload 5, 2) := eX12_best_157.2.2.2.2.1
theorem dX12_best_164 : decode cX12_best 164 = .ok (.invokestatic 384, 3) := eX12_best_157.2.2.2.2.2.1
theorem dX12_best_167 : decode cX12_best 167 = .ok (.istore 11, 2) := eX12_best_157.2.2.2.2.2.2.1
theorem dX12_best_169 : decode cX12_best 169 = .ok (.iload 11, 2) := eX12_best_157.2.2.2.2.2.2.2.1
theorem eX12_best_171 : decode cX12_best 171 = .ok (.ifCond .lt 86, 3) ∧ decode cX12_best 174 = .ok (.iload 11, 2) ∧ decode cX12_best 176 = .ok (.iload 10, 2) ∧ decode cX12_best 178 = .ok (.iadd, 1) ∧ decode cX12_best 179 = .ok (.ifCond .ne 6, 3) ∧ decode cX12_best 182 = .ok (.goto 69, 3) ∧ decode cX12_best 185 = .ok (.iload 10, 2) ∧ decode cX12_best 187 = .ok (.ifCond .ne 14, 3) ∧ True := dkl_ok (c := cX12_best) [(.ifCond .lt 86, 3), (.iload 11, 2), (.iload 10, 2), (.iadd, 1), (.ifCond .ne 6, 3), (.goto 69, 3), (.iload 10, 2), (.ifCond .ne 14, 3)] 171 (by decide +kernel)
theorem dX12_best_171 : decode cX12_best 171 = .ok (.ifCond .lt 86, 3) := eX12_best_171.1
theorem dX12_best_174 : decode cX12_best 174 = .ok (.iload 11, 2) := eX12_best_171.2.1
theorem dX12_best_176 : decode cX12_best 176 = .ok (.iload 10, 2) := eX12_best_171.2.2.1
theorem dX12_best_178 : decode cX12_best 178 = .ok (.iadd, 1) := eX12_best_171.2.2.2.1
theorem dX12_best_179 : decode cX12_best 179 = .ok (.ifCond .ne 6, 3) := eX12_best_171.2.2.2.2.1
theorem dX12_best_182 : decode cX12_best 182 = .ok (.goto 69, 3) := eX12_best_171.2.2.2.2.2.1
theorem dX12_best_185 : decode cX12_best 185 = .ok (.iload 10, 2) := eX12_best_171.2.2.2.2.2.2.1
theorem dX12_best_187 : decode cX12_best 187 = .ok (.ifCond .ne 14, 3) := eX12_best_171.2.2.2.2.2.2.2.1
theorem eX12_best_190 : decode cX12_best 190 = .ok (.bipush 16, 2) ∧ decode cX12_best 192 = .ok (.iload 4, 2) ∧ decode cX12_best 194 = .ok (.iload 11, 2) ∧ decode cX12_best 196 = .ok (.isub, 1) ∧ decode cX12_best 197 = .ok (.imul, 1) ∧ decode cX12_best 198 = .ok (.goto 24, 3) ∧ decode cX12_best 201 = .ok (.iload_n 1, 1) ∧ decode cX12_best 202 = .ok (.iload 4, 2) ∧ True := dkl_ok (c := cX12_best) [(.bipush 16, 2), (.iload 4, 2), (.iload 11, 2), (.isub, 1), (.imul, 1), (.goto 24, 3), (.iload_n 1, 1), (.iload 4, 2)] 190 (by decide +kernel)
theorem dX12_best_190 : decode cX12_best 190 = .ok (.bipush 16, 2) := eX12_best_190.1
theorem dX12_best_192 : decode cX12_best 192 = .ok (.iload 4, 2) := eX12_best_190.2.1
theorem dX12_best_194 : decode cX12_best 194 = .ok (.iload 11, 2) := eX12_best_190.2.2.1
theorem dX12_best_196 : decode cX12_best 196 = .ok (.isub, 1) := eX12_best_190.2.2.2.1
theorem dX12_best_197 : decode cX12_best 197 = .ok (.imul, 1) := eX12_best_190.2.2.2.2.1
theorem dX12_best_198 : decode cX12_best 198 = .ok (.goto 24, 3) := eX12_best_190.2.2.2.2.2.1
theorem dX12_best_201 : decode cX12_best 201 = .ok (.iload_n 1, 1) := eX12_best_190.2.2.2.2.2.2.1
theorem dX12_best_202 : decode cX12_best 202 = .ok (.iload 4, 2) := eX12_best_190.2.2.2.2.2.2.2.1
theorem eX12_best_204 : decode cX12_best 204 = .ok (.iload 6, 2) ∧ decode cX12_best 206 = .ok (.iadd, 1) ∧ decode cX12_best 207 = .ok (.imul, 1) ∧ decode cX12_best 208 = .ok (.bipush 16, 2) ∧ decode cX12_best 210 = .ok (.iload_n 1, 1) ∧ decode cX12_best 211 = .ok (.isub, 1) ∧ decode cX12_best 212 = .ok (.iload 4, 2) ∧ decode cX12_best 214 = .ok (.iload 11, 2) ∧ True := dkl_ok (c := cX12_best) [(.iload 6, 2), (.iadd, 1), (.imul, 1), (.bipush 16, 2), (.iload_n 1, 1), (.isub, 1), (.iload 4, 2), (.iload 11, 2)] 204 (by decide +kernel)
theorem dX12_best_204 : decode cX12_best 204 = .ok (.iload 6, 2) := eX12_best_204.1
theorem dX12_best_206 : decode cX12_best 206 = .ok (.iadd, 1) := eX12_best_204.2.1
theorem dX12_best_207 : decode cX12_best 207 = .ok (.imul, 1) := eX12_best_204.2.2.1
theorem dX12_best_208 : decode cX12_best 208 = .ok (.bipush 16, 2) := eX12_best_204.2.2.2.1
theorem dX12_best_210 : decode cX12_best 210 = .ok (.iload_n 1, 1) := eX12_best_204.2.2.2.2.1
theorem dX12_best_211 : decode cX12_best 211 = .ok (.isub, 1) := eX12_best_204.2.2.2.2.2.1
theorem dX12_best_212 : decode cX12_best 212 = .ok (.iload 4, 2) := eX12_best_204.2.2.2.2.2.2.1
theorem dX12_best_214 : decode cX12_best 214 = .ok (.iload 11, 2) := eX12_best_204.2.2.2.2.2.2.2.1
theorem eX12_best_216 : decode cX12_best 216 = .ok (.isub, 1) ∧ decode cX12_best 217 = .ok (.iload 10, 2) ∧ decode cX12_best 219 = .ok (.isub, 1) ∧ decode cX12_best 220 = .ok (.imul, 1) ∧ decode cX12_best 221 = .ok (.iadd, 1) ∧ decode cX12_best 222 = .ok (.istore 12, 2) ∧ decode cX12_best 224 = .ok (.iload 7, 2) ∧ decode cX12_best 226 = .ok (.ifCond .lt 13, 3) ∧ True := dkl_ok (c := cX12_best) [(.isub, 1), (.iload 10, 2), (.isub, 1), (.imul, 1), (.iadd, 1), (.istore 12, 2), (.iload 7, 2), (.ifCond .lt 13, 3)] 216 (by decide +kernel)
theorem dX12_best_216 : decode cX12_best 216 = .ok (.isub, 1) := eX12_best_216.1
theorem dX12_best_217 : decode cX12_best 217 = .ok (.iload 10, 2) := eX12_best_216.2.1
theorem dX12_best_219 : decode cX12_best 219 = .ok (.isub, 1) := eX12_best_216.2.2.1
theorem dX12_best_220 : decode cX12_best 220 = .ok (.imul, 1) := eX12_best_216.2.2.2.1
theorem dX12_best_221 : decode cX12_best 221 = .ok (.iadd, 1) := eX12_best_216.2.2.2.2.1
theorem dX12_best_222 : decode cX12_best 222 = .ok (.istore 12, 2) := eX12_best_216.2.2.2.2.2.1
theorem dX12_best_224 : decode cX12_best 224 = .ok (.iload 7, 2) := eX12_best_216.2.2.2.2.2.2.1
theorem dX12_best_226 : decode cX12_best 226 = .ok (.ifCond .lt 13, 3) := eX12_best_216.2.2.2.2.2.2.2.1
theorem eX12_best_229 : decode cX12_best 229 = .ok (.iload 12, 2) ∧ decode cX12_best 231 = .ok (.iload 9, 2) ∧ decode cX12_best 233 = .ok (.if_icmp .lt 6, 3) ∧ decode cX12_best 236 = .ok (.goto 15, 3) ∧ decode cX12_best 239 = .ok (.iload 11, 2) ∧ decode cX12_best 241 = .ok (.istore 7, 2) ∧ decode cX12_best 243 = .ok (.iload 10, 2) ∧ decode cX12_best 245 = .ok (.istore 8, 2) ∧ True := dkl_ok (c := cX12_best) [(.iload 12, 2), (.iload 9, 2), (.if_icmp .lt 6, 3), (.goto 15, 3), (.iload 11, 2), (.istore 7, 2), (.iload 10, 2), (.istore 8, 2)] 229 (by decide +kernel)
theorem dX12_best_229 : decode cX12_best 229 = .ok (.iload 12, 2) := eX12_best_229.1
theorem dX12_best_231 : decode cX12_best 231 = .ok (.iload 9, 2) := eX12_best_229.2.1
theorem dX12_best_233 : decode cX12_best 233 = .ok (.if_icmp .lt 6, 3) := eX12_best_229.2.2.1
theorem dX12_best_236 : decode cX12_best 236 = .ok (.goto 15, 3) := eX12_best_229.2.2.2.1
theorem dX12_best_239 : decode cX12_best 239 = .ok (.iload 11, 2) := eX12_best_229.2.2.2.2.1
theorem dX12_best_241 : decode cX12_best 241 = .ok (.istore 7, 2) := eX12_best_229.2.2.2.2.2.1
theorem dX12_best_243 : decode cX12_best 243 = .ok (.iload 10, 2) := eX12_best_229.2.2.2.2.2.2.1
theorem dX12_best_245 : decode cX12_best 245 = .ok (.istore 8, 2) := eX12_best_229.2.2.2.2.2.2.2.1
theorem eX12_best_247 : decode cX12_best 247 = .ok (.iload 12, 2) ∧ decode cX12_best 249 = .ok (.istore 9, 2) ∧ decode cX12_best 251 = .ok (.iinc 11 (-1), 3) ∧ decode cX12_best 254 = .ok (.goto (-85), 3) ∧ decode cX12_best 257 = .ok (.iinc 10 1, 3) ∧ decode cX12_best 260 = .ok (.goto (-126), 3) ∧ decode cX12_best 263 = .ok (.aload_n 0, 1) ∧ decode cX12_best 264 = .ok (.iload 9, 2) ∧ True := dkl_ok (c := cX12_best) [(.iload 12, 2), (.istore 9, 2), (.iinc 11 (-1), 3), (.goto (-85), 3), (.iinc 10 1, 3), (.goto (-126), 3), (.aload_n 0, 1), (.iload 9, 2)] 247 (by decide +kernel)
theorem dX12_best_247 : decode cX12_best 247 = .ok (.iload 12, 2) := eX12_best_247.1
theorem dX12_best_249 : decode cX12_best 249 = .ok (.istore 9, 2) := eX12_best_247.2.1
theorem dX12_best_251 : decode cX12_best 251 = .ok (.iinc 11 (-1), 3) := eX12_best_247.2.2.1
theorem dX12_best_254 : decode cX12_best 254 = .ok (.goto (-85), 3) := eX12_best_247.2.2.2.1
theorem dX12_best_257 : decode cX12_best 257 = .ok (.iinc 10 1, 3) := eX12_best_247.2.2.2.2.1
theorem dX12_best_260 : decode cX12_best 260 = .ok (.goto (-126), 3) := eX12_best_247.2.2.2.2.2.1
theorem dX12_best_263 : decode cX12_best 263 = .ok (.aload_n 0, 1) := eX12_best_247.2.2.2.2.2.2.1
theorem dX12_best_264 : decode cX12_best 264 = .ok (.iload 9, 2) := eX12_best_247.2.2.2.2.2.2.2.1
theorem eX12_best_266 : decode cX12_best 266 = .ok (.i2l, 1) ∧ decode cX12_best 267 = .ok (.ldc2_w 331, 3) ∧ decode cX12_best 270 = .ok (.invokevirtual 361, 3) ∧ decode cX12_best 273 = .ok (.pop, 1) ∧ decode cX12_best 274 = .ok (.iload_n 2, 1) ∧ decode cX12_best 275 = .ok (.ifCond .ne 8, 3) ∧ decode cX12_best 278 = .ok (.iload 7, 2) ∧ decode cX12_best 280 = .ok (.goto 5, 3) ∧ True := dkl_ok (c := cX12_best) [(.i2l, 1), (.ldc2_w 331, 3), (.invokevirtual 361, 3), (.pop, 1), (.iload_n 2, 1), (.ifCond .ne 8, 3), (.iload 7, 2), (.goto 5, 3)] 266 (by decide +kernel)
theorem dX12_best_266 : decode cX12_best 266 = .ok (.i2l, 1) := eX12_best_266.1
theorem dX12_best_267 : decode cX12_best 267 = .ok (.ldc2_w 331, 3) := eX12_best_266.2.1
theorem dX12_best_270 : decode cX12_best 270 = .ok (.invokevirtual 361, 3) := eX12_best_266.2.2.1
theorem dX12_best_273 : decode cX12_best 273 = .ok (.pop, 1) := eX12_best_266.2.2.2.1
theorem dX12_best_274 : decode cX12_best 274 = .ok (.iload_n 2, 1) := eX12_best_266.2.2.2.2.1
theorem dX12_best_275 : decode cX12_best 275 = .ok (.ifCond .ne 8, 3) := eX12_best_266.2.2.2.2.2.1
theorem dX12_best_278 : decode cX12_best 278 = .ok (.iload 7, 2) := eX12_best_266.2.2.2.2.2.2.1
theorem dX12_best_280 : decode cX12_best 280 = .ok (.goto 5, 3) := eX12_best_266.2.2.2.2.2.2.2.1
theorem eX12_best_283 : decode cX12_best 283 = .ok (.iload 8, 2) ∧ decode cX12_best 285 = .ok (.ireturn, 1) ∧ True := dkl_ok (c := cX12_best) [(.iload 8, 2), (.ireturn, 1)] 283 (by decide +kernel)
theorem dX12_best_283 : decode cX12_best 283 = .ok (.iload 8, 2) := eX12_best_283.1
theorem dX12_best_285 : decode cX12_best 285 = .ok (.ireturn, 1) := eX12_best_283.2.1
theorem eX12_sayer_0 : decode cX12_sayer 0 = .ok (.aload_n 0, 1) ∧ decode cX12_sayer 1 = .ok (.iconst 0, 1) ∧ decode cX12_sayer 2 = .ok (.putfield 59, 3) ∧ decode cX12_sayer 5 = .ok (.aload_n 0, 1) ∧ decode cX12_sayer 6 = .ok (.iconst 0, 1) ∧ decode cX12_sayer 7 = .ok (.putfield 62, 3) ∧ decode cX12_sayer 10 = .ok (.aload_n 0, 1) ∧ decode cX12_sayer 11 = .ok (.iload_n 1, 1) ∧ True := dkl_ok (c := cX12_sayer) [(.aload_n 0, 1), (.iconst 0, 1), (.putfield 59, 3), (.aload_n 0, 1), (.iconst 0, 1), (.putfield 62, 3), (.aload_n 0, 1), (.iload_n 1, 1)] 0 (by decide +kernel)
theorem dX12_sayer_0 : decode cX12_sayer 0 = .ok (.aload_n 0, 1) := eX12_sayer_0.1
theorem dX12_sayer_1 : decode cX12_sayer 1 = .ok (.iconst 0, 1) := eX12_sayer_0.2.1
theorem dX12_sayer_2 : decode cX12_sayer 2 = .ok (.putfield 59, 3) := eX12_sayer_0.2.2.1
theorem dX12_sayer_5 : decode cX12_sayer 5 = .ok (.aload_n 0, 1) := eX12_sayer_0.2.2.2.1
theorem dX12_sayer_6 : decode cX12_sayer 6 = .ok (.iconst 0, 1) := eX12_sayer_0.2.2.2.2.1
theorem dX12_sayer_7 : decode cX12_sayer 7 = .ok (.putfield 62, 3) := eX12_sayer_0.2.2.2.2.2.1
theorem dX12_sayer_10 : decode cX12_sayer 10 = .ok (.aload_n 0, 1) := eX12_sayer_0.2.2.2.2.2.2.1
theorem dX12_sayer_11 : decode cX12_sayer 11 = .ok (.iload_n 1, 1) := eX12_sayer_0.2.2.2.2.2.2.2.1
theorem eX12_sayer_12 : decode cX12_sayer 12 = .ok (.invokevirtual 299, 3) ∧ decode cX12_sayer 15 = .ok (.ifCond .ne 9, 3) ∧ decode cX12_sayer 18 = .ok (.aload_n 0, 1) ∧ decode cX12_sayer 19 = .ok (.iconst 2, 1) ∧ decode cX12_sayer 20 = .ok (.invokevirtual 284, 3) ∧ decode cX12_sayer 23 = .ok (.ireturn, 1) ∧ decode cX12_sayer 24 = .ok (.iconst 0, 1) ∧ decode cX12_sayer 25 = .ok (.istore_n 2, 1) ∧ True := dkl_ok (c := cX12_sayer) [(.invokevirtual 299, 3), (.ifCond .ne 9, 3), (.aload_n 0, 1), (.iconst 2, 1), (.invokevirtual 284, 3), (.ireturn, 1), (.iconst 0, 1), (.istore_n 2, 1)] 12 (by decide +kernel)
theorem dX12_sayer_12 : decode cX12_sayer 12 = .ok (.invokevirtual 299, 3) := eX12_sayer_12.1
theorem dX12_sayer_15 : decode cX12_sayer 15 = .ok (.ifCond .ne 9, 3) := eX12_sayer_12.2.1
theorem dX12_sayer_18 : decode cX12_sayer 18 = .ok (.aload_n 0, 1) := eX12_sayer_12.2.2.1
theorem dX12_sayer_19 : decode cX12_sayer 19 = .ok (.iconst 2, 1) := eX12_sayer_12.2.2.2.1
theorem dX12_sayer_20 : decode cX12_sayer 20 = .ok (.invokevirtual 284, 3) := eX12_sayer_12.2.2.2.2.1
theorem dX12_sayer_23 : decode cX12_sayer 23 = .ok (.ireturn, 1) := eX12_sayer_12.2.2.2.2.2.1
theorem dX12_sayer_24 : decode cX12_sayer 24 = .ok (.iconst 0, 1) := eX12_sayer_12.2.2.2.2.2.2.1
theorem dX12_sayer_25 : decode cX12_sayer 25 = .ok (.istore_n 2, 1) := eX12_sayer_12.2.2.2.2.2.2.2.1
theorem eX12_sayer_26 : decode cX12_sayer 26 = .ok (.iload_n 2, 1) ∧ decode cX12_sayer 27 = .ok (.aload_n 0, 1) ∧ decode cX12_sayer 28 = .ok (.getfield 35, 3) ∧ decode cX12_sayer 31 = .ok (.iconst 0, 1) ∧ decode cX12_sayer 32 = .ok (.iaload, 1) ∧ decode cX12_sayer 33 = .ok (.aload_n 0, 1) ∧ decode cX12_sayer 34 = .ok (.getfield 35, 3) ∧ decode cX12_sayer 37 = .ok (.iconst 2, 1) ∧ True := dkl_ok (c := cX12_sayer) [(.iload_n 2, 1), (.aload_n 0, 1), (.getfield 35, 3), (.iconst 0, 1), (.iaload, 1), (.aload_n 0, 1), (.getfield 35, 3), (.iconst 2, 1)] 26 (by decide +kernel)
theorem dX12_sayer_26 : decode cX12_sayer 26 = .ok (.iload_n 2, 1) := eX12_sayer_26.1
theorem dX12_sayer_27 : decode cX12_sayer 27 = .ok (.aload_n 0, 1) := eX12_sayer_26.2.1
theorem dX12_sayer_28 : decode cX12_sayer 28 = .ok (.getfield 35, 3) := eX12_sayer_26.2.2.1
theorem dX12_sayer_31 : decode cX12_sayer 31 = .ok (.iconst 0, 1) := eX12_sayer_26.2.2.2.1
theorem dX12_sayer_32 : decode cX12_sayer 32 = .ok (.iaload, 1) := eX12_sayer_26.2.2.2.2.1
theorem dX12_sayer_33 : decode cX12_sayer 33 = .ok (.aload_n 0, 1) := eX12_sayer_26.2.2.2.2.2.1
theorem dX12_sayer_34 : decode cX12_sayer 34 = .ok (.getfield 35, 3) := eX12_sayer_26.2.2.2.2.2.2.1
theorem dX12_sayer_37 : decode cX12_sayer 37 = .ok (.iconst 2, 1) := eX12_sayer_26.2.2.2.2.2.2.2.1
theorem eX12_sayer_38 : decode cX12_sayer 38 = .ok (.iaload, 1) ∧ decode cX12_sayer 39 = .ok (.imul, 1) ∧ decode cX12_sayer 40 = .ok (.if_icmp .ge 77, 3) ∧ decode cX12_sayer 43 = .ok (.aload_n 0, 1) ∧ decode cX12_sayer 44 = .ok (.getfield 35, 3) ∧ decode cX12_sayer 47 = .ok (.bipush 7, 2) ∧ decode cX12_sayer 49 = .ok (.iaload, 1) ∧ decode cX12_sayer 50 = .ok (.iconst 1, 1) ∧ True := dkl_ok (c := cX12_sayer) [(.iaload, 1), (.imul, 1), (.if_icmp .ge 77, 3), (.aload_n 0, 1), (.getfield 35, 3), (.bipush 7, 2), (.iaload, 1), (.iconst 1, 1)] 38 (by decide +kernel)
theorem dX12_sayer_38 : decode cX12_sayer 38 = .ok (.iaload, 1) := eX12_sayer_38.1
theorem dX12_sayer_39 : decode cX12_sayer 39 = .ok (.imul, 1) := eX12_sayer_38.2.1
theorem dX12_sayer_40 : decode cX12_sayer 40 = .ok (.if_icmp .ge 77, 3) := eX12_sayer_38.2.2.1
theorem dX12_sayer_43 : decode cX12_sayer 43 = .ok (.aload_n 0, 1) := eX12_sayer_38.2.2.2.1
theorem dX12_sayer_44 : decode cX12_sayer 44 = .ok (.getfield 35, 3) := eX12_sayer_38.2.2.2.2.1
theorem dX12_sayer_47 : decode cX12_sayer 47 = .ok (.bipush 7, 2) := eX12_sayer_38.2.2.2.2.2.1
theorem dX12_sayer_49 : decode cX12_sayer 49 = .ok (.iaload, 1) := eX12_sayer_38.2.2.2.2.2.2.1
theorem dX12_sayer_50 : decode cX12_sayer 50 = .ok (.iconst 1, 1) := eX12_sayer_38.2.2.2.2.2.2.2.1
theorem eX12_sayer_51 : decode cX12_sayer 51 = .ok (.if_icmp .ne 24, 3) ∧ decode cX12_sayer 54 = .ok (.aload_n 0, 1) ∧ decode cX12_sayer 55 = .ok (.getfield 35, 3) ∧ decode cX12_sayer 58 = .ok (.bipush 6, 2) ∧ decode cX12_sayer 60 = .ok (.iaload, 1) ∧ decode cX12_sayer 61 = .ok (.iconst 1, 1) ∧ decode cX12_sayer 62 = .ok (.iadd, 1) ∧ decode cX12_sayer 63 = .ok (.iload_n 2, 1) ∧ True := dkl_ok (c := cX12_sayer) [(.if_icmp .ne 24, 3), (.aload_n 0, 1), (.getfield 35, 3), (.bipush 6, 2), (.iaload, 1), (.iconst 1, 1), (.iadd, 1), (.iload_n 2, 1)] 51 (by decide +kernel)
theorem dX12_sayer_51 : decode cX12_sayer 51 = .ok (.if_icmp .ne 24, 3) := eX12_sayer_51.1
theorem dX12_sayer_54 : decode cX12_sayer 54 = .ok (.aload_n 0, 1) := eX12_sayer_51.2.1
theorem dX12_sayer_55 : decode cX12_sayer 55 = .ok (.getfield 35, 3) := eX12_sayer_51.2.2.1
theorem dX12_sayer_58 : decode cX12_sayer 58 = .ok (.bipush 6, 2) := eX12_sayer_51.2.2.2.1
theorem dX12_sayer_60 : decode cX12_sayer 60 = .ok (.iaload, 1) := eX12_sayer_51.2.2.2.2.1
theorem dX12_sayer_61 : decode cX12_sayer 61 = .ok (.iconst 1, 1) := eX12_sayer_51.2.2.2.2.2.1
theorem dX12_sayer_62 : decode cX12_sayer 62 = .ok (.iadd, 1) := eX12_sayer_51.2.2.2.2.2.2.1
theorem dX12_sayer_63 : decode cX12_sayer 63 = .ok (.iload_n 2, 1) := eX12_sayer_51.2.2.2.2.2.2.2.1
theorem eX12_sayer_64 : decode cX12_sayer 64 = .ok (.iadd, 1) ∧ decode cX12_sayer 65 = .ok (.aload_n 0, 1) ∧ decode cX12_sayer 66 = .ok (.getfield 35, 3) ∧ decode cX12_sayer 69 = .ok (.iconst 2, 1) ∧ decode cX12_sayer 70 = .ok (.iaload, 1) ∧ decode cX12_sayer 71 = .ok (.irem, 1) ∧ decode cX12_sayer 72 = .ok (.goto 19, 3) ∧ decode cX12_sayer 75 = .ok (.aload_n 0, 1) ∧ True := dkl_ok (c := cX12_sayer) [(.iadd, 1), (.aload_n 0, 1), (.getfield 35, 3), (.iconst 2, 1), (.iaload, 1), (.irem, 1), (.goto 19, 3), (.aload_n 0, 1)] 64 (by decide +kernel)
theorem dX12_sayer_64 : decode cX12_sayer 64 = .ok (.iadd, 1) := eX12_sayer_64.1
theorem dX12_sayer_65 : decode cX12_sayer 65 = .ok (.aload_n 0, 1) := eX12_sayer_64.2.1
theorem dX12_sayer_66 : decode cX12_sayer 66 = .ok (.getfield 35, 3) := eX12_sayer_64.2.2.1
theorem dX12_sayer_69 : decode cX12_sayer 69 = .ok (.iconst 2, 1) := eX12_sayer_64.2.2.2.1
theorem dX12_sayer_70 : decode cX12_sayer 70 = .ok (.iaload, 1) := eX12_sayer_64.2.2.2.2.1
theorem dX12_sayer_71 : decode cX12_sayer 71 = .ok (.irem, 1) := eX12_sayer_64.2.2.2.2.2.1
theorem dX12_sayer_72 : decode cX12_sayer 72 = .ok (.goto 19, 3) := eX12_sayer_64.2.2.2.2.2.2.1
theorem dX12_sayer_75 : decode cX12_sayer 75 = .ok (.aload_n 0, 1) := eX12_sayer_64.2.2.2.2.2.2.2.1
theorem eX12_sayer_76 : decode cX12_sayer 76 = .ok (.getfield 35, 3) ∧ decode cX12_sayer 79 = .ok (.bipush 6, 2) ∧ decode cX12_sayer 81 = .ok (.iaload, 1) ∧ decode cX12_sayer 82 = .ok (.iload_n 2, 1) ∧ decode cX12_sayer 83 = .ok (.iadd, 1) ∧ decode cX12_sayer 84 = .ok (.aload_n 0, 1) ∧ decode cX12_sayer 85 = .ok (.getfield 35, 3) ∧ decode cX12_sayer 88 = .ok (.iconst 2, 1) ∧ True := dkl_ok (c := cX12_sayer) [(.getfield 35, 3), (.bipush 6, 2), (.iaload, 1), (.iload_n 2, 1), (.iadd, 1), (.aload_n 0, 1), (.getfield 35, 3), (.iconst 2, 1)] 76 (by decide +kernel)
theorem dX12_sayer_76 : decode cX12_sayer 76 = .ok (.getfield 35, 3) := eX12_sayer_76.1
theorem dX12_sayer_79 : decode cX12_sayer 79 = .ok (.bipush 6, 2) := eX12_sayer_76.2.1
theorem dX12_sayer_81 : decode cX12_sayer 81 = .ok (.iaload, 1) := eX12_sayer_76.2.2.1
theorem dX12_sayer_82 : decode cX12_sayer 82 = .ok (.iload_n 2, 1) := eX12_sayer_76.2.2.2.1
theorem dX12_sayer_83 : decode cX12_sayer 83 = .ok (.iadd, 1) := eX12_sayer_76.2.2.2.2.1
theorem dX12_sayer_84 : decode cX12_sayer 84 = .ok (.aload_n 0, 1) := eX12_sayer_76.2.2.2.2.2.1
theorem dX12_sayer_85 : decode cX12_sayer 85 = .ok (.getfield 35, 3) := eX12_sayer_76.2.2.2.2.2.2.1
theorem dX12_sayer_88 : decode cX12_sayer 88 = .ok (.iconst 2, 1) := eX12_sayer_76.2.2.2.2.2.2.2.1
theorem eX12_sayer_89 : decode cX12_sayer 89 = .ok (.iaload, 1) ∧ decode cX12_sayer 90 = .ok (.irem, 1) ∧ decode cX12_sayer 91 = .ok (.istore_n 3, 1) ∧ decode cX12_sayer 92 = .ok (.aload_n 0, 1) ∧ decode cX12_sayer 93 = .ok (.iload_n 3, 1) ∧ decode cX12_sayer 94 = .ok (.iload_n 2, 1) ∧ decode cX12_sayer 95 = .ok (.aload_n 0, 1) ∧ decode cX12_sayer 96 = .ok (.getfield 35, 3) ∧ True := dkl_ok (c := cX12_sayer) [(.iaload, 1), (.irem, 1), (.istore_n 3, 1), (.aload_n 0, 1), (.iload_n 3, 1), (.iload_n 2, 1), (.aload_n 0, 1), (.getfield 35, 3)] 89 (by decide +kernel)
theorem dX12_sayer_89 : decode cX12_sayer 89 = .ok (.iaload, 1) := eX12_sayer_89.1
theorem dX12_sayer_90 : decode cX12_sayer 90 = .ok (.irem, 1) := eX12_sayer_89.2.1
theorem dX12_sayer_91 : decode cX12_sayer 91 = .ok (.istore_n 3, 1) := eX12_sayer_89.2.2.1
theorem dX12_sayer_92 : decode cX12_sayer 92 = .ok (.aload_n 0, 1) := eX12_sayer_89.2.2.2.1
theorem dX12_sayer_93 : decode cX12_sayer 93 = .ok (.iload_n 3, 1) := eX12_sayer_89.2.2.2.2.1
theorem dX12_sayer_94 : decode cX12_sayer 94 = .ok (.iload_n 2, 1) := eX12_sayer_89.2.2.2.2.2.1
theorem dX12_sayer_95 : decode cX12_sayer 95 = .ok (.aload_n 0, 1) := eX12_sayer_89.2.2.2.2.2.2.1
theorem dX12_sayer_96 : decode cX12_sayer 96 = .ok (.getfield 35, 3) := eX12_sayer_89.2.2.2.2.2.2.2.1
theorem eX12_sayer_99 : decode cX12_sayer 99 = .ok (.iconst 2, 1) ∧ decode cX12_sayer 100 = .ok (.iaload, 1) ∧ decode cX12_sayer 101 = .ok (.idiv, 1) ∧ decode cX12_sayer 102 = .ok (.invokevirtual 372, 3) ∧ decode cX12_sayer 105 = .ok (.iload_n 1, 1) ∧ decode cX12_sayer 106 = .ok (.if_icmp .ne 5, 3) ∧ decode cX12_sayer 109 = .ok (.iload_n 3, 1) ∧ decode cX12_sayer 110 = .ok (.ireturn, 1) ∧ True := dkl_ok (c := cX12_sayer) [(.iconst 2, 1), (.iaload, 1), (.idiv, 1), (.invokevirtual 372, 3), (.iload_n 1, 1), (.if_icmp .ne 5, 3), (.iload_n 3, 1), (.ireturn, 1)] 99 (by decide +kernel)
theorem dX12_sayer_99 : decode cX12_sayer 99 = .ok (.iconst 2, 1) := eX12_sayer_99.1
theorem dX12_sayer_100 : decode cX12_sayer 100 = .ok (.iaload, 1) := eX12_sayer_99.2.1
theorem dX12_sayer_101 : decode cX12_sayer 101 = .ok (.idiv, 1) := eX12_sayer_99.2.2.1
theorem dX12_sayer_102 : decode cX12_sayer 102 = .ok (.invokevirtual 372, 3) := eX12_sayer_99.2.2.2.1
theorem dX12_sayer_105 : decode cX12_sayer 105 = .ok (.iload_n 1, 1) := eX12_sayer_99.2.2.2.2.1
theorem dX12_sayer_106 : decode cX12_sayer 106 = .ok (.if_icmp .ne 5, 3) := eX12_sayer_99.2.2.2.2.2.1
theorem dX12_sayer_109 : decode cX12_sayer 109 = .ok (.iload_n 3, 1) := eX12_sayer_99.2.2.2.2.2.2.1
theorem dX12_sayer_110 : decode cX12_sayer 110 = .ok (.ireturn, 1) := eX12_sayer_99.2.2.2.2.2.2.2.1
theorem eX12_sayer_111 : decode cX12_sayer 111 = .ok (.iinc 2 1, 3) ∧ decode cX12_sayer 114 = .ok (.goto (-88), 3) ∧ decode cX12_sayer 117 = .ok (.aload_n 0, 1) ∧ decode cX12_sayer 118 = .ok (.bipush 8, 2) ∧ decode cX12_sayer 120 = .ok (.invokevirtual 284, 3) ∧ decode cX12_sayer 123 = .ok (.ireturn, 1) ∧ True := dkl_ok (c := cX12_sayer) [(.iinc 2 1, 3), (.goto (-88), 3), (.aload_n 0, 1), (.bipush 8, 2), (.invokevirtual 284, 3), (.ireturn, 1)] 111 (by decide +kernel)
theorem dX12_sayer_111 : decode cX12_sayer 111 = .ok (.iinc 2 1, 3) := eX12_sayer_111.1
theorem dX12_sayer_114 : decode cX12_sayer 114 = .ok (.goto (-88), 3) := eX12_sayer_111.2.1
theorem dX12_sayer_117 : decode cX12_sayer 117 = .ok (.aload_n 0, 1) := eX12_sayer_111.2.2.1
theorem dX12_sayer_118 : decode cX12_sayer 118 = .ok (.bipush 8, 2) := eX12_sayer_111.2.2.2.1
theorem dX12_sayer_120 : decode cX12_sayer 120 = .ok (.invokevirtual 284, 3) := eX12_sayer_111.2.2.2.2.1
theorem dX12_sayer_123 : decode cX12_sayer 123 = .ok (.ireturn, 1) := eX12_sayer_111.2.2.2.2.2.1
theorem eX12_has_0 : decode cX12_has 0 = .ok (.aload_n 0, 1) ∧ decode cX12_has 1 = .ok (.iconst 0, 1) ∧ decode cX12_has 2 = .ok (.putfield 59, 3) ∧ decode cX12_has 5 = .ok (.aload_n 0, 1) ∧ decode cX12_has 6 = .ok (.iconst 0, 1) ∧ decode cX12_has 7 = .ok (.putfield 62, 3) ∧ decode cX12_has 10 = .ok (.aload_n 0, 1) ∧ decode cX12_has 11 = .ok (.iload_n 1, 1) ∧ True := dkl_ok (c := cX12_has) [(.aload_n 0, 1), (.iconst 0, 1), (.putfield 59, 3), (.aload_n 0, 1), (.iconst 0, 1), (.putfield 62, 3), (.aload_n 0, 1), (.iload_n 1, 1)] 0 (by decide +kernel)
theorem dX12_has_0 : decode cX12_has 0 = .ok (.aload_n 0, 1) := eX12_has_0.1
theorem dX12_has_1 : decode cX12_has 1 = .ok (.iconst 0, 1) := eX12_has_0.2.1
theorem dX12_has_2 : decode cX12_has 2 = .ok (.putfield 59, 3) := eX12_has_0.2.2.1
theorem dX12_has_5 : decode cX12_has 5 = .ok (.aload_n 0, 1) := eX12_has_0.2.2.2.1
theorem dX12_has_6 : decode cX12_has 6 = .ok (.iconst 0, 1) := eX12_has_0.2.2.2.2.1
theorem dX12_has_7 : decode cX12_has 7 = .ok (.putfield 62, 3) := eX12_has_0.2.2.2.2.2.1
theorem dX12_has_10 : decode cX12_has 10 = .ok (.aload_n 0, 1) := eX12_has_0.2.2.2.2.2.2.1
theorem dX12_has_11 : decode cX12_has 11 = .ok (.iload_n 1, 1) := eX12_has_0.2.2.2.2.2.2.2.1
theorem eX12_has_12 : decode cX12_has 12 = .ok (.invokevirtual 290, 3) ∧ decode cX12_has 15 = .ok (.ifCond .ne 9, 3) ∧ decode cX12_has 18 = .ok (.aload_n 0, 1) ∧ decode cX12_has 19 = .ok (.iconst 2, 1) ∧ decode cX12_has 20 = .ok (.invokevirtual 284, 3) ∧ decode cX12_has 23 = .ok (.ireturn, 1) ∧ decode cX12_has 24 = .ok (.iconst 0, 1) ∧ decode cX12_has 25 = .ok (.istore_n 2, 1) ∧ True := dkl_ok (c := cX12_has) [(.invokevirtual 290, 3), (.ifCond .ne 9, 3), (.aload_n 0, 1), (.iconst 2, 1), (.invokevirtual 284, 3), (.ireturn, 1), (.iconst 0, 1), (.istore_n 2, 1)] 12 (by decide +kernel)
theorem dX12_has_12 : decode cX12_has 12 = .ok (.invokevirtual 290, 3) := eX12_has_12.1
theorem dX12_has_15 : decode cX12_has 15 = .ok (.ifCond .ne 9, 3) := eX12_has_12.2.1
theorem dX12_has_18 : decode cX12_has 18 = .ok (.aload_n 0, 1) := eX12_has_12.2.2.1
theorem dX12_has_19 : decode cX12_has 19 = .ok (.iconst 2, 1) := eX12_has_12.2.2.2.1
theorem dX12_has_20 : decode cX12_has 20 = .ok (.invokevirtual 284, 3) := eX12_has_12.2.2.2.2.1
theorem dX12_has_23 : decode cX12_has 23 = .ok (.ireturn, 1) := eX12_has_12.2.2.2.2.2.1
theorem dX12_has_24 : decode cX12_has 24 = .ok (.iconst 0, 1) := eX12_has_12.2.2.2.2.2.2.1
theorem dX12_has_25 : decode cX12_has 25 = .ok (.istore_n 2, 1) := eX12_has_12.2.2.2.2.2.2.2.1
theorem eX12_has_26 : decode cX12_has 26 = .ok (.iconst 0, 1) ∧ decode cX12_has 27 = .ok (.istore_n 3, 1) ∧ decode cX12_has 28 = .ok (.iload_n 3, 1) ∧ decode cX12_has 29 = .ok (.aload_n 0, 1) ∧ decode cX12_has 30 = .ok (.getfield 35, 3) ∧ decode cX12_has 33 = .ok (.iconst 0, 1) ∧ decode cX12_has 34 = .ok (.iaload, 1) ∧ decode cX12_has 35 = .ok (.if_icmp .ge 28, 3) ∧ True := dkl_ok (c := cX12_has) [(.iconst 0, 1), (.istore_n 3, 1), (.iload_n 3, 1), (.aload_n 0, 1), (.getfield 35, 3), (.iconst 0, 1), (.iaload, 1), (.if_icmp .ge 28, 3)] 26 (by decide +kernel)
theorem dX12_has_26 : decode cX12_has 26 = .ok (.iconst 0, 1) := eX12_has_26.1
theorem dX12_has_27 : decode cX12_has 27 = .ok (.istore_n 3, 1) := eX12_has_26.2.1
theorem dX12_has_28 : decode cX12_has 28 = .ok (.iload_n 3, 1) := eX12_has_26.2.2.1
theorem dX12_has_29 : decode cX12_has 29 = .ok (.aload_n 0, 1) := eX12_has_26.2.2.2.1
theorem dX12_has_30 : decode cX12_has 30 = .ok (.getfield 35, 3) := eX12_has_26.2.2.2.2.1
theorem dX12_has_33 : decode cX12_has 33 = .ok (.iconst 0, 1) := eX12_has_26.2.2.2.2.2.1
theorem dX12_has_34 : decode cX12_has 34 = .ok (.iaload, 1) := eX12_has_26.2.2.2.2.2.2.1
theorem dX12_has_35 : decode cX12_has 35 = .ok (.if_icmp .ge 28, 3) := eX12_has_26.2.2.2.2.2.2.2.1
theorem eX12_has_38 : decode cX12_has 38 = .ok (.iload_n 2, 1) ∧ decode cX12_has 39 = .ok (.aload_n 0, 1) ∧ decode cX12_has 40 = .ok (.iload_n 1, 1) ∧ decode cX12_has 41 = .ok (.iload_n 3, 1) ∧ decode cX12_has 42 = .ok (.invokevirtual 276, 3) ∧ decode cX12_has 45 = .ok (.ifCond .le 9, 3) ∧ decode cX12_has 48 = .ok (.iconst 1, 1) ∧ decode cX12_has 49 = .ok (.iload_n 3, 1) ∧ True := dkl_ok (c := cX12_has) [(.iload_n 2, 1), (.aload_n 0, 1), (.iload_n 1, 1), (.iload_n 3, 1), (.invokevirtual 276, 3), (.ifCond .le 9, 3), (.iconst 1, 1), (.iload_n 3, 1)] 38 (by decide +kernel)
theorem dX12_has_38 : decode cX12_has 38 = .ok (.iload_n 2, 1) := eX12_has_38.1
theorem dX12_has_39 : decode cX12_has 39 = .ok (.aload_n 0, 1) := eX12_has_38.2.1
theorem dX12_has_40 : decode cX12_has 40 = .ok (.iload_n 1, 1) := eX12_has_38.2.2.1
theorem dX12_has_41 : decode cX12_has 41 = .ok (.iload_n 3, 1) := eX12_has_38.2.2.2.1
theorem dX12_has_42 : decode cX12_has 42 = .ok (.invokevirtual 276, 3) := eX12_has_38.2.2.2.2.1
theorem dX12_has_45 : decode cX12_has 45 = .ok (.ifCond .le 9, 3) := eX12_has_38.2.2.2.2.2.1
theorem dX12_has_48 : decode cX12_has 48 = .ok (.iconst 1, 1) := eX12_has_38.2.2.2.2.2.2.1
theorem dX12_has_49 : decode cX12_has 49 = .ok (.iload_n 3, 1) := eX12_has_38.2.2.2.2.2.2.2.1
theorem eX12_has_50 : decode cX12_has 50 = .ok (.ishl, 1) ∧ decode cX12_has 51 = .ok (.goto 4, 3) ∧ decode cX12_has 54 = .ok (.iconst 0, 1) ∧ decode cX12_has 55 = .ok (.ior, 1) ∧ decode cX12_has 56 = .ok (.istore_n 2, 1) ∧ decode cX12_has 57 = .ok (.iinc 3 1, 3) ∧ decode cX12_has 60 = .ok (.goto (-32), 3) ∧ decode cX12_has 63 = .ok (.iload_n 2, 1) ∧ True := dkl_ok (c := cX12_has) [(.ishl, 1), (.goto 4, 3), (.iconst 0, 1), (.ior, 1), (.istore_n 2, 1), (.iinc 3 1, 3), (.goto (-32), 3), (.iload_n 2, 1)] 50 (by decide +kernel)
theorem dX12_has_50 : decode cX12_has 50 = .ok (.ishl, 1) := eX12_has_50.1
theorem dX12_has_51 : decode cX12_has 51 = .ok (.goto 4, 3) := eX12_has_50.2.1
theorem dX12_has_54 : decode cX12_has 54 = .ok (.iconst 0, 1) := eX12_has_50.2.2.1
theorem dX12_has_55 : decode cX12_has 55 = .ok (.ior, 1) := eX12_has_50.2.2.2.1
theorem dX12_has_56 : decode cX12_has 56 = .ok (.istore_n 2, 1) := eX12_has_50.2.2.2.2.1
theorem dX12_has_57 : decode cX12_has 57 = .ok (.iinc 3 1, 3) := eX12_has_50.2.2.2.2.2.1
theorem dX12_has_60 : decode cX12_has 60 = .ok (.goto (-32), 3) := eX12_has_50.2.2.2.2.2.2.1
theorem dX12_has_63 : decode cX12_has 63 = .ok (.iload_n 2, 1) := eX12_has_50.2.2.2.2.2.2.2.1
theorem eX12_has_64 : decode cX12_has 64 = .ok (.ireturn, 1) ∧ True := dkl_ok (c := cX12_has) [(.ireturn, 1)] 64 (by decide +kernel)
theorem dX12_has_64 : decode cX12_has 64 = .ok (.ireturn, 1) := eX12_has_64.1
theorem eX12_lies_0 : decode cX12_lies 0 = .ok (.aload_n 0, 1) ∧ decode cX12_lies 1 = .ok (.iconst 0, 1) ∧ decode cX12_lies 2 = .ok (.putfield 59, 3) ∧ decode cX12_lies 5 = .ok (.aload_n 0, 1) ∧ decode cX12_lies 6 = .ok (.iconst 0, 1) ∧ decode cX12_lies 7 = .ok (.putfield 62, 3) ∧ decode cX12_lies 10 = .ok (.aload_n 0, 1) ∧ decode cX12_lies 11 = .ok (.iload_n 1, 1) ∧ True := dkl_ok (c := cX12_lies) [(.aload_n 0, 1), (.iconst 0, 1), (.putfield 59, 3), (.aload_n 0, 1), (.iconst 0, 1), (.putfield 62, 3), (.aload_n 0, 1), (.iload_n 1, 1)] 0 (by decide +kernel)
theorem dX12_lies_0 : decode cX12_lies 0 = .ok (.aload_n 0, 1) := eX12_lies_0.1
theorem dX12_lies_1 : decode cX12_lies 1 = .ok (.iconst 0, 1) := eX12_lies_0.2.1
theorem dX12_lies_2 : decode cX12_lies 2 = .ok (.putfield 59, 3) := eX12_lies_0.2.2.1
theorem dX12_lies_5 : decode cX12_lies 5 = .ok (.aload_n 0, 1) := eX12_lies_0.2.2.2.1
theorem dX12_lies_6 : decode cX12_lies 6 = .ok (.iconst 0, 1) := eX12_lies_0.2.2.2.2.1
theorem dX12_lies_7 : decode cX12_lies 7 = .ok (.putfield 62, 3) := eX12_lies_0.2.2.2.2.2.1
theorem dX12_lies_10 : decode cX12_lies 10 = .ok (.aload_n 0, 1) := eX12_lies_0.2.2.2.2.2.2.1
theorem dX12_lies_11 : decode cX12_lies 11 = .ok (.iload_n 1, 1) := eX12_lies_0.2.2.2.2.2.2.2.1
theorem eX12_lies_12 : decode cX12_lies 12 = .ok (.invokevirtual 299, 3) ∧ decode cX12_lies 15 = .ok (.ifCond .eq 12, 3) ∧ decode cX12_lies 18 = .ok (.aload_n 0, 1) ∧ decode cX12_lies 19 = .ok (.iconst (-1), 1) ∧ decode cX12_lies 20 = .ok (.iload_n 1, 1) ∧ decode cX12_lies 21 = .ok (.invokevirtual 296, 3) ∧ decode cX12_lies 24 = .ok (.goto 8, 3) ∧ decode cX12_lies 27 = .ok (.aload_n 0, 1) ∧ True := dkl_ok (c := cX12_lies) [(.invokevirtual 299, 3), (.ifCond .eq 12, 3), (.aload_n 0, 1), (.iconst (-1), 1), (.iload_n 1, 1), (.invokevirtual 296, 3), (.goto 8, 3), (.aload_n 0, 1)] 12 (by decide +kernel)
theorem dX12_lies_12 : decode cX12_lies 12 = .ok (.invokevirtual 299, 3) := eX12_lies_12.1
theorem dX12_lies_15 : decode cX12_lies 15 = .ok (.ifCond .eq 12, 3) := eX12_lies_12.2.1
theorem dX12_lies_18 : decode cX12_lies 18 = .ok (.aload_n 0, 1) := eX12_lies_12.2.2.1
theorem dX12_lies_19 : decode cX12_lies 19 = .ok (.iconst (-1), 1) := eX12_lies_12.2.2.2.1
theorem dX12_lies_20 : decode cX12_lies 20 = .ok (.iload_n 1, 1) := eX12_lies_12.2.2.2.2.1
theorem dX12_lies_21 : decode cX12_lies 21 = .ok (.invokevirtual 296, 3) := eX12_lies_12.2.2.2.2.2.1
theorem dX12_lies_24 : decode cX12_lies 24 = .ok (.goto 8, 3) := eX12_lies_12.2.2.2.2.2.2.1
theorem dX12_lies_27 : decode cX12_lies 27 = .ok (.aload_n 0, 1) := eX12_lies_12.2.2.2.2.2.2.2.1
theorem eX12_lies_28 : decode cX12_lies 28 = .ok (.iconst 2, 1) ∧ decode cX12_lies 29 = .ok (.invokevirtual 284, 3) ∧ decode cX12_lies 32 = .ok (.ireturn, 1) ∧ True := dkl_ok (c := cX12_lies) [(.iconst 2, 1), (.invokevirtual 284, 3), (.ireturn, 1)] 28 (by decide +kernel)
theorem dX12_lies_28 : decode cX12_lies 28 = .ok (.iconst 2, 1) := eX12_lies_28.1
theorem dX12_lies_29 : decode cX12_lies 29 = .ok (.invokevirtual 284, 3) := eX12_lies_28.2.1
theorem dX12_lies_32 : decode cX12_lies 32 = .ok (.ireturn, 1) := eX12_lies_28.2.2.1
theorem eX12_guess_0 : decode cX12_guess 0 = .ok (.aload_n 0, 1) ∧ decode cX12_guess 1 = .ok (.iconst 0, 1) ∧ decode cX12_guess 2 = .ok (.putfield 59, 3) ∧ decode cX12_guess 5 = .ok (.aload_n 0, 1) ∧ decode cX12_guess 6 = .ok (.iconst 0, 1) ∧ decode cX12_guess 7 = .ok (.putfield 62, 3) ∧ decode cX12_guess 10 = .ok (.aload_n 0, 1) ∧ decode cX12_guess 11 = .ok (.iload_n 1, 1) ∧ True := dkl_ok (c := cX12_guess) [(.aload_n 0, 1), (.iconst 0, 1), (.putfield 59, 3), (.aload_n 0, 1), (.iconst 0, 1), (.putfield 62, 3), (.aload_n 0, 1), (.iload_n 1, 1)] 0 (by decide +kernel)
theorem dX12_guess_0 : decode cX12_guess 0 = .ok (.aload_n 0, 1) := eX12_guess_0.1
theorem dX12_guess_1 : decode cX12_guess 1 = .ok (.iconst 0, 1) := eX12_guess_0.2.1
theorem dX12_guess_2 : decode cX12_guess 2 = .ok (.putfield 59, 3) := eX12_guess_0.2.2.1
theorem dX12_guess_5 : decode cX12_guess 5 = .ok (.aload_n 0, 1) := eX12_guess_0.2.2.2.1
theorem dX12_guess_6 : decode cX12_guess 6 = .ok (.iconst 0, 1) := eX12_guess_0.2.2.2.2.1
theorem dX12_guess_7 : decode cX12_guess 7 = .ok (.putfield 62, 3) := eX12_guess_0.2.2.2.2.2.1
theorem dX12_guess_10 : decode cX12_guess 10 = .ok (.aload_n 0, 1) := eX12_guess_0.2.2.2.2.2.2.1
theorem dX12_guess_11 : decode cX12_guess 11 = .ok (.iload_n 1, 1) := eX12_guess_0.2.2.2.2.2.2.2.1
theorem eX12_guess_12 : decode cX12_guess 12 = .ok (.invokevirtual 290, 3) ∧ decode cX12_guess 15 = .ok (.ifCond .eq 11, 3) ∧ decode cX12_guess 18 = .ok (.aload_n 0, 1) ∧ decode cX12_guess 19 = .ok (.iload_n 2, 1) ∧ decode cX12_guess 20 = .ok (.invokevirtual 299, 3) ∧ decode cX12_guess 23 = .ok (.ifCond .ne 9, 3) ∧ decode cX12_guess 26 = .ok (.aload_n 0, 1) ∧ decode cX12_guess 27 = .ok (.iconst 2, 1) ∧ True := dkl_ok (c := cX12_guess) [(.invokevirtual 290, 3), (.ifCond .eq 11, 3), (.aload_n 0, 1), (.iload_n 2, 1), (.invokevirtual 299, 3), (.ifCond .ne 9, 3), (.aload_n 0, 1), (.iconst 2, 1)] 12 (by decide +kernel)
theorem dX12_guess_12 : decode cX12_guess 12 = .ok (.invokevirtual 290, 3) := eX12_guess_12.1
theorem dX12_guess_15 : decode cX12_guess 15 = .ok (.ifCond .eq 11, 3) := eX12_guess_12.2.1
theorem dX12_guess_18 : decode cX12_guess 18 = .ok (.aload_n 0, 1) := eX12_guess_12.2.2.1
theorem dX12_guess_19 : decode cX12_guess 19 = .ok (.iload_n 2, 1) := eX12_guess_12.2.2.2.1
theorem dX12_guess_20 : decode cX12_guess 20 = .ok (.invokevirtual 299, 3) := eX12_guess_12.2.2.2.2.1
theorem dX12_guess_23 : decode cX12_guess 23 = .ok (.ifCond .ne 9, 3) := eX12_guess_12.2.2.2.2.2.1
theorem dX12_guess_26 : decode cX12_guess 26 = .ok (.aload_n 0, 1) := eX12_guess_12.2.2.2.2.2.2.1
theorem dX12_guess_27 : decode cX12_guess 27 = .ok (.iconst 2, 1) := eX12_guess_12.2.2.2.2.2.2.2.1
theorem eX12_guess_28 : decode cX12_guess 28 = .ok (.invokevirtual 74, 3) ∧ decode cX12_guess 31 = .ok (.ireturn, 1) ∧ decode cX12_guess 32 = .ok (.iload_n 3, 1) ∧ decode cX12_guess 33 = .ok (.i2l, 1) ∧ decode cX12_guess 34 = .ok (.lconst 0, 1) ∧ decode cX12_guess 35 = .ok (.ldc2_w 393, 3) ∧ decode cX12_guess 38 = .ok (.invokestatic 94, 3) ∧ decode cX12_guess 41 = .ok (.ifCond .ne 9, 3) ∧ True := dkl_ok (c := cX12_guess) [(.invokevirtual 74, 3), (.ireturn, 1), (.iload_n 3, 1), (.i2l, 1), (.lconst 0, 1), (.ldc2_w 393, 3), (.invokestatic 94, 3), (.ifCond .ne 9, 3)] 28 (by decide +kernel)
theorem dX12_guess_28 : decode cX12_guess 28 = .ok (.invokevirtual 74, 3) := eX12_guess_28.1
theorem dX12_guess_31 : decode cX12_guess 31 = .ok (.ireturn, 1) := eX12_guess_28.2.1
theorem dX12_guess_32 : decode cX12_guess 32 = .ok (.iload_n 3, 1) := eX12_guess_28.2.2.1
theorem dX12_guess_33 : decode cX12_guess 33 = .ok (.i2l, 1) := eX12_guess_28.2.2.2.1
theorem dX12_guess_34 : decode cX12_guess 34 = .ok (.lconst 0, 1) := eX12_guess_28.2.2.2.2.1
theorem dX12_guess_35 : decode cX12_guess 35 = .ok (.ldc2_w 393, 3) := eX12_guess_28.2.2.2.2.2.1
theorem dX12_guess_38 : decode cX12_guess 38 = .ok (.invokestatic 94, 3) := eX12_guess_28.2.2.2.2.2.2.1
theorem dX12_guess_41 : decode cX12_guess 41 = .ok (.ifCond .ne 9, 3) := eX12_guess_28.2.2.2.2.2.2.2.1
theorem eX12_guess_44 : decode cX12_guess 44 = .ok (.aload_n 0, 1) ∧ decode cX12_guess 45 = .ok (.iconst 5, 1) ∧ decode cX12_guess 46 = .ok (.invokevirtual 74, 3) ∧ decode cX12_guess 49 = .ok (.ireturn, 1) ∧ decode cX12_guess 50 = .ok (.aload_n 0, 1) ∧ decode cX12_guess 51 = .ok (.iload_n 1, 1) ∧ decode cX12_guess 52 = .ok (.invokevirtual 339, 3) ∧ decode cX12_guess 55 = .ok (.iload_n 3, 1) ∧ True := dkl_ok (c := cX12_guess) [(.aload_n 0, 1), (.iconst 5, 1), (.invokevirtual 74, 3), (.ireturn, 1), (.aload_n 0, 1), (.iload_n 1, 1), (.invokevirtual 339, 3), (.iload_n 3, 1)] 44 (by decide +kernel)
theorem dX12_guess_44 : decode cX12_guess 44 = .ok (.aload_n 0, 1) := eX12_guess_44.1
theorem dX12_guess_45 : decode cX12_guess 45 = .ok (.iconst 5, 1) := eX12_guess_44.2.1
theorem dX12_guess_46 : decode cX12_guess 46 = .ok (.invokevirtual 74, 3) := eX12_guess_44.2.2.1
theorem dX12_guess_49 : decode cX12_guess 49 = .ok (.ireturn, 1) := eX12_guess_44.2.2.2.1
theorem dX12_guess_50 : decode cX12_guess 50 = .ok (.aload_n 0, 1) := eX12_guess_44.2.2.2.2.1
theorem dX12_guess_51 : decode cX12_guess 51 = .ok (.iload_n 1, 1) := eX12_guess_44.2.2.2.2.2.1
theorem dX12_guess_52 : decode cX12_guess 52 = .ok (.invokevirtual 339, 3) := eX12_guess_44.2.2.2.2.2.2.1
theorem dX12_guess_55 : decode cX12_guess 55 = .ok (.iload_n 3, 1) := eX12_guess_44.2.2.2.2.2.2.2.1
theorem eX12_guess_56 : decode cX12_guess 56 = .ok (.if_icmp .ge 10, 3) ∧ decode cX12_guess 59 = .ok (.aload_n 0, 1) ∧ decode cX12_guess 60 = .ok (.bipush 9, 2) ∧ decode cX12_guess 62 = .ok (.invokevirtual 74, 3) ∧ decode cX12_guess 65 = .ok (.ireturn, 1) ∧ decode cX12_guess 66 = .ok (.aload_n 0, 1) ∧ decode cX12_guess 67 = .ok (.aload_n 0, 1) ∧ decode cX12_guess 68 = .ok (.iload_n 1, 1) ∧ True := dkl_ok (c := cX12_guess) [(.if_icmp .ge 10, 3), (.aload_n 0, 1), (.bipush 9, 2), (.invokevirtual 74, 3), (.ireturn, 1), (.aload_n 0, 1), (.aload_n 0, 1), (.iload_n 1, 1)] 56 (by decide +kernel)
theorem dX12_guess_56 : decode cX12_guess 56 = .ok (.if_icmp .ge 10, 3) := eX12_guess_56.1
theorem dX12_guess_59 : decode cX12_guess 59 = .ok (.aload_n 0, 1) := eX12_guess_56.2.1
theorem dX12_guess_60 : decode cX12_guess 60 = .ok (.bipush 9, 2) := eX12_guess_56.2.2.1
theorem dX12_guess_62 : decode cX12_guess 62 = .ok (.invokevirtual 74, 3) := eX12_guess_56.2.2.2.1
theorem dX12_guess_65 : decode cX12_guess 65 = .ok (.ireturn, 1) := eX12_guess_56.2.2.2.2.1
theorem dX12_guess_66 : decode cX12_guess 66 = .ok (.aload_n 0, 1) := eX12_guess_56.2.2.2.2.2.1
theorem dX12_guess_67 : decode cX12_guess 67 = .ok (.aload_n 0, 1) := eX12_guess_56.2.2.2.2.2.2.1
theorem dX12_guess_68 : decode cX12_guess 68 = .ok (.iload_n 1, 1) := eX12_guess_56.2.2.2.2.2.2.2.1
theorem eX12_guess_69 : decode cX12_guess 69 = .ok (.iload_n 2, 1) ∧ decode cX12_guess 70 = .ok (.invokevirtual 336, 3) ∧ decode cX12_guess 73 = .ok (.iload_n 3, 1) ∧ decode cX12_guess 74 = .ok (.invokestatic 342, 3) ∧ decode cX12_guess 77 = .ok (.aload_n 0, 1) ∧ decode cX12_guess 78 = .ok (.iload_n 1, 1) ∧ decode cX12_guess 79 = .ok (.invokevirtual 339, 3) ∧ decode cX12_guess 82 = .ok (.iload_n 3, 1) ∧ True := dkl_ok (c := cX12_guess) [(.iload_n 2, 1), (.invokevirtual 336, 3), (.iload_n 3, 1), (.invokestatic 342, 3), (.aload_n 0, 1), (.iload_n 1, 1), (.invokevirtual 339, 3), (.iload_n 3, 1)] 69 (by decide +kernel)
theorem dX12_guess_69 : decode cX12_guess 69 = .ok (.iload_n 2, 1) := eX12_guess_69.1
theorem dX12_guess_70 : decode cX12_guess 70 = .ok (.invokevirtual 336, 3) := eX12_guess_69.2.1
theorem dX12_guess_73 : decode cX12_guess 73 = .ok (.iload_n 3, 1) := eX12_guess_69.2.2.1
theorem dX12_guess_74 : decode cX12_guess 74 = .ok (.invokestatic 342, 3) := eX12_guess_69.2.2.2.1
theorem dX12_guess_77 : decode cX12_guess 77 = .ok (.aload_n 0, 1) := eX12_guess_69.2.2.2.2.1
theorem dX12_guess_78 : decode cX12_guess 78 = .ok (.iload_n 1, 1) := eX12_guess_69.2.2.2.2.2.1
theorem dX12_guess_79 : decode cX12_guess 79 = .ok (.invokevirtual 339, 3) := eX12_guess_69.2.2.2.2.2.2.1
theorem dX12_guess_82 : decode cX12_guess 82 = .ok (.iload_n 3, 1) := eX12_guess_69.2.2.2.2.2.2.2.1
theorem eX12_guess_83 : decode cX12_guess 83 = .ok (.invokestatic 342, 3) ∧ decode cX12_guess 86 = .ok (.invokevirtual 361, 3) ∧ decode cX12_guess 89 = .ok (.ireturn, 1) ∧ True := dkl_ok (c := cX12_guess) [(.invokestatic 342, 3), (.invokevirtual 361, 3), (.ireturn, 1)] 83 (by decide +kernel)
theorem dX12_guess_83 : decode cX12_guess 83 = .ok (.invokestatic 342, 3) := eX12_guess_83.1
theorem dX12_guess_86 : decode cX12_guess 86 = .ok (.invokevirtual 361, 3) := eX12_guess_83.2.1
theorem dX12_guess_89 : decode cX12_guess 89 = .ok (.ireturn, 1) := eX12_guess_83.2.2.1
theorem eX12_fullest_0 : decode cX12_fullest 0 = .ok (.aload_n 0, 1) ∧ decode cX12_fullest 1 = .ok (.iconst 0, 1) ∧ decode cX12_fullest 2 = .ok (.putfield 59, 3) ∧ decode cX12_fullest 5 = .ok (.aload_n 0, 1) ∧ decode cX12_fullest 6 = .ok (.iconst 0, 1) ∧ decode cX12_fullest 7 = .ok (.putfield 62, 3) ∧ decode cX12_fullest 10 = .ok (.iconst (-1), 1) ∧ decode cX12_fullest 11 = .ok (.istore_n 1, 1) ∧ True := dkl_ok (c := cX12_fullest) [(.aload_n 0, 1), (.iconst 0, 1), (.putfield 59, 3), (.aload_n 0, 1), (.iconst 0, 1), (.putfield 62, 3), (.iconst (-1), 1), (.istore_n 1, 1)] 0 (by decide +kernel)
theorem dX12_fullest_0 : decode cX12_fullest 0 = .ok (.aload_n 0, 1) := eX12_fullest_0.1
theorem dX12_fullest_1 : decode cX12_fullest 1 = .ok (.iconst 0, 1) := eX12_fullest_0.2.1
theorem dX12_fullest_2 : decode cX12_fullest 2 = .ok (.putfield 59, 3) := eX12_fullest_0.2.2.1
theorem dX12_fullest_5 : decode cX12_fullest 5 = .ok (.aload_n 0, 1) := eX12_fullest_0.2.2.2.1
theorem dX12_fullest_6 : decode cX12_fullest 6 = .ok (.iconst 0, 1) := eX12_fullest_0.2.2.2.2.1
theorem dX12_fullest_7 : decode cX12_fullest 7 = .ok (.putfield 62, 3) := eX12_fullest_0.2.2.2.2.2.1
theorem dX12_fullest_10 : decode cX12_fullest 10 = .ok (.iconst (-1), 1) := eX12_fullest_0.2.2.2.2.2.2.1
theorem dX12_fullest_11 : decode cX12_fullest 11 = .ok (.istore_n 1, 1) := eX12_fullest_0.2.2.2.2.2.2.2.1
theorem eX12_fullest_12 : decode cX12_fullest 12 = .ok (.iconst 0, 1) ∧ decode cX12_fullest 13 = .ok (.istore_n 2, 1) ∧ decode cX12_fullest 14 = .ok (.iload_n 2, 1) ∧ decode cX12_fullest 15 = .ok (.aload_n 0, 1) ∧ decode cX12_fullest 16 = .ok (.getfield 35, 3) ∧ decode cX12_fullest 19 = .ok (.iconst 2, 1) ∧ decode cX12_fullest 20 = .ok (.iaload, 1) ∧ decode cX12_fullest 21 = .ok (.if_icmp .ge 28, 3) ∧ True := dkl_ok (c := cX12_fullest) [(.iconst 0, 1), (.istore_n 2, 1), (.iload_n 2, 1), (.aload_n 0, 1), (.getfield 35, 3), (.iconst 2, 1), (.iaload, 1), (.if_icmp .ge 28, 3)] 12 (by decide +kernel)
theorem dX12_fullest_12 : decode cX12_fullest 12 = .ok (.iconst 0, 1) := eX12_fullest_12.1
theorem dX12_fullest_13 : decode cX12_fullest 13 = .ok (.istore_n 2, 1) := eX12_fullest_12.2.1
theorem dX12_fullest_14 : decode cX12_fullest 14 = .ok (.iload_n 2, 1) := eX12_fullest_12.2.2.1
theorem dX12_fullest_15 : decode cX12_fullest 15 = .ok (.aload_n 0, 1) := eX12_fullest_12.2.2.2.1
theorem dX12_fullest_16 : decode cX12_fullest 16 = .ok (.getfield 35, 3) := eX12_fullest_12.2.2.2.2.1
theorem dX12_fullest_19 : decode cX12_fullest 19 = .ok (.iconst 2, 1) := eX12_fullest_12.2.2.2.2.2.1
theorem dX12_fullest_20 : decode cX12_fullest 20 = .ok (.iaload, 1) := eX12_fullest_12.2.2.2.2.2.2.1
theorem dX12_fullest_21 : decode cX12_fullest 21 = .ok (.if_icmp .ge 28, 3) := eX12_fullest_12.2.2.2.2.2.2.2.1
theorem eX12_fullest_24 : decode cX12_fullest 24 = .ok (.iload_n 1, 1) ∧ decode cX12_fullest 25 = .ok (.ifCond .lt 16, 3) ∧ decode cX12_fullest 28 = .ok (.aload_n 0, 1) ∧ decode cX12_fullest 29 = .ok (.iload_n 2, 1) ∧ decode cX12_fullest 30 = .ok (.invokevirtual 293, 3) ∧ decode cX12_fullest 33 = .ok (.aload_n 0, 1) ∧ decode cX12_fullest 34 = .ok (.iload_n 1, 1) ∧ decode cX12_fullest 35 = .ok (.invokevirtual 293, 3) ∧ True := dkl_ok (c := cX12_fullest) [(.iload_n 1, 1), (.ifCond .lt 16, 3), (.aload_n 0, 1), (.iload_n 2, 1), (.invokevirtual 293, 3), (.aload_n 0, 1), (.iload_n 1, 1), (.invokevirtual 293, 3)] 24 (by decide +kernel)
theorem dX12_fullest_24 : decode cX12_fullest 24 = .ok (.iload_n 1, 1) := eX12_fullest_24.1
theorem dX12_fullest_25 : decode cX12_fullest 25 = .ok (.ifCond .lt 16, 3) := eX12_fullest_24.2.1
theorem dX12_fullest_28 : decode cX12_fullest 28 = .ok (.aload_n 0, 1) := eX12_fullest_24.2.2.1
theorem dX12_fullest_29 : decode cX12_fullest 29 = .ok (.iload_n 2, 1) := eX12_fullest_24.2.2.2.1
theorem dX12_fullest_30 : decode cX12_fullest 30 = .ok (.invokevirtual 293, 3) := eX12_fullest_24.2.2.2.2.1
theorem dX12_fullest_33 : decode cX12_fullest 33 = .ok (.aload_n 0, 1) := eX12_fullest_24.2.2.2.2.2.1
theorem dX12_fullest_34 : decode cX12_fullest 34 = .ok (.iload_n 1, 1) := eX12_fullest_24.2.2.2.2.2.2.1
theorem dX12_fullest_35 : decode cX12_fullest 35 = .ok (.invokevirtual 293, 3) := eX12_fullest_24.2.2.2.2.2.2.2.1
theorem eX12_fullest_38 : decode cX12_fullest 38 = .ok (.if_icmp .le 5, 3) ∧ decode cX12_fullest 41 = .ok (.iload_n 2, 1) ∧ decode cX12_fullest 42 = .ok (.istore_n 1, 1) ∧ decode cX12_fullest 43 = .ok (.iinc 2 1, 3) ∧ decode cX12_fullest 46 = .ok (.goto (-32), 3) ∧ decode cX12_fullest 49 = .ok (.iload_n 1, 1) ∧ decode cX12_fullest 50 = .ok (.ifCond .ge 12, 3) ∧ decode cX12_fullest 53 = .ok (.aload_n 0, 1) ∧ True := dkl_ok (c := cX12_fullest) [(.if_icmp .le 5, 3), (.iload_n 2, 1), (.istore_n 1, 1), (.iinc 2 1, 3), (.goto (-32), 3), (.iload_n 1, 1), (.ifCond .ge 12, 3), (.aload_n 0, 1)] 38 (by decide +kernel)
theorem dX12_fullest_38 : decode cX12_fullest 38 = .ok (.if_icmp .le 5, 3) := eX12_fullest_38.1
theorem dX12_fullest_41 : decode cX12_fullest 41 = .ok (.iload_n 2, 1) := eX12_fullest_38.2.1
theorem dX12_fullest_42 : decode cX12_fullest 42 = .ok (.istore_n 1, 1) := eX12_fullest_38.2.2.1
theorem dX12_fullest_43 : decode cX12_fullest 43 = .ok (.iinc 2 1, 3) := eX12_fullest_38.2.2.2.1
theorem dX12_fullest_46 : decode cX12_fullest 46 = .ok (.goto (-32), 3) := eX12_fullest_38.2.2.2.2.1
theorem dX12_fullest_49 : decode cX12_fullest 49 = .ok (.iload_n 1, 1) := eX12_fullest_38.2.2.2.2.2.1
theorem dX12_fullest_50 : decode cX12_fullest 50 = .ok (.ifCond .ge 12, 3) := eX12_fullest_38.2.2.2.2.2.2.1
theorem dX12_fullest_53 : decode cX12_fullest 53 = .ok (.aload_n 0, 1) := eX12_fullest_38.2.2.2.2.2.2.2.1
theorem eX12_fullest_54 : decode cX12_fullest 54 = .ok (.bipush 8, 2) ∧ decode cX12_fullest 56 = .ok (.invokevirtual 284, 3) ∧ decode cX12_fullest 59 = .ok (.goto 4, 3) ∧ decode cX12_fullest 62 = .ok (.iload_n 1, 1) ∧ decode cX12_fullest 63 = .ok (.ireturn, 1) ∧ True := dkl_ok (c := cX12_fullest) [(.bipush 8, 2), (.invokevirtual 284, 3), (.goto 4, 3), (.iload_n 1, 1), (.ireturn, 1)] 54 (by decide +kernel)
theorem dX12_fullest_54 : decode cX12_fullest 54 = .ok (.bipush 8, 2) := eX12_fullest_54.1
theorem dX12_fullest_56 : decode cX12_fullest 56 = .ok (.invokevirtual 284, 3) := eX12_fullest_54.2.1
theorem dX12_fullest_59 : decode cX12_fullest 59 = .ok (.goto 4, 3) := eX12_fullest_54.2.2.1
theorem dX12_fullest_62 : decode cX12_fullest 62 = .ok (.iload_n 1, 1) := eX12_fullest_54.2.2.2.1
theorem dX12_fullest_63 : decode cX12_fullest 63 = .ok (.ireturn, 1) := eX12_fullest_54.2.2.2.2.1
theorem eX12_quartet_0 : decode cX12_quartet 0 = .ok (.aload_n 0, 1) ∧ decode cX12_quartet 1 = .ok (.iconst 0, 1) ∧ decode cX12_quartet 2 = .ok (.putfield 59, 3) ∧ decode cX12_quartet 5 = .ok (.aload_n 0, 1) ∧ decode cX12_quartet 6 = .ok (.iconst 0, 1) ∧ decode cX12_quartet 7 = .ok (.putfield 62, 3) ∧ decode cX12_quartet 10 = .ok (.aload_n 0, 1) ∧ decode cX12_quartet 11 = .ok (.iload_n 1, 1) ∧ True := dkl_ok (c := cX12_quartet) [(.aload_n 0, 1), (.iconst 0, 1), (.putfield 59, 3), (.aload_n 0, 1), (.iconst 0, 1), (.putfield 62, 3), (.aload_n 0, 1), (.iload_n 1, 1)] 0 (by decide +kernel)
theorem dX12_quartet_0 : decode cX12_quartet 0 = .ok (.aload_n 0, 1) := eX12_quartet_0.1
theorem dX12_quartet_1 : decode cX12_quartet 1 = .ok (.iconst 0, 1) := eX12_quartet_0.2.1
theorem dX12_quartet_2 : decode cX12_quartet 2 = .ok (.putfield 59, 3) := eX12_quartet_0.2.2.1
theorem dX12_quartet_5 : decode cX12_quartet 5 = .ok (.aload_n 0, 1) := eX12_quartet_0.2.2.2.1
theorem dX12_quartet_6 : decode cX12_quartet 6 = .ok (.iconst 0, 1) := eX12_quartet_0.2.2.2.2.1
theorem dX12_quartet_7 : decode cX12_quartet 7 = .ok (.putfield 62, 3) := eX12_quartet_0.2.2.2.2.2.1
theorem dX12_quartet_10 : decode cX12_quartet 10 = .ok (.aload_n 0, 1) := eX12_quartet_0.2.2.2.2.2.2.1
theorem dX12_quartet_11 : decode cX12_quartet 11 = .ok (.iload_n 1, 1) := eX12_quartet_0.2.2.2.2.2.2.2.1
theorem eX12_quartet_12 : decode cX12_quartet 12 = .ok (.invokevirtual 290, 3) ∧ decode cX12_quartet 15 = .ok (.ifCond .ne 9, 3) ∧ decode cX12_quartet 18 = .ok (.aload_n 0, 1) ∧ decode cX12_quartet 19 = .ok (.iconst 2, 1) ∧ decode cX12_quartet 20 = .ok (.invokevirtual 284, 3) ∧ decode cX12_quartet 23 = .ok (.ireturn, 1) ∧ decode cX12_quartet 24 = .ok (.iconst 0, 1) ∧ decode cX12_quartet 25 = .ok (.istore_n 2, 1) ∧ True := dkl_ok (c := cX12_quartet) [(.invokevirtual 290, 3), (.ifCond .ne 9, 3), (.aload_n 0, 1), (.iconst 2, 1), (.invokevirtual 284, 3), (.ireturn, 1), (.iconst 0, 1), (.istore_n 2, 1)] 12 (by decide +kernel)
theorem dX12_quartet_12 : decode cX12_quartet 12 = .ok (.invokevirtual 290, 3) := eX12_quartet_12.1
theorem dX12_quartet_15 : decode cX12_quartet 15 = .ok (.ifCond .ne 9, 3) := eX12_quartet_12.2.1
theorem dX12_quartet_18 : decode cX12_quartet 18 = .ok (.aload_n 0, 1) := eX12_quartet_12.2.2.1
theorem dX12_quartet_19 : decode cX12_quartet 19 = .ok (.iconst 2, 1) := eX12_quartet_12.2.2.2.1
theorem dX12_quartet_20 : decode cX12_quartet 20 = .ok (.invokevirtual 284, 3) := eX12_quartet_12.2.2.2.2.1
theorem dX12_quartet_23 : decode cX12_quartet 23 = .ok (.ireturn, 1) := eX12_quartet_12.2.2.2.2.2.1
theorem dX12_quartet_24 : decode cX12_quartet 24 = .ok (.iconst 0, 1) := eX12_quartet_12.2.2.2.2.2.2.1
theorem dX12_quartet_25 : decode cX12_quartet 25 = .ok (.istore_n 2, 1) := eX12_quartet_12.2.2.2.2.2.2.2.1
theorem eX12_quartet_26 : decode cX12_quartet 26 = .ok (.iload_n 2, 1) ∧ decode cX12_quartet 27 = .ok (.aload_n 0, 1) ∧ decode cX12_quartet 28 = .ok (.getfield 35, 3) ∧ decode cX12_quartet 31 = .ok (.iconst 0, 1) ∧ decode cX12_quartet 32 = .ok (.iaload, 1) ∧ decode cX12_quartet 33 = .ok (.if_icmp .ge 34, 3) ∧ decode cX12_quartet 36 = .ok (.aload_n 0, 1) ∧ decode cX12_quartet 37 = .ok (.iload_n 1, 1) ∧ True := dkl_ok (c := cX12_quartet) [(.iload_n 2, 1), (.aload_n 0, 1), (.getfield 35, 3), (.iconst 0, 1), (.iaload, 1), (.if_icmp .ge 34, 3), (.aload_n 0, 1), (.iload_n 1, 1)] 26 (by decide +kernel)
theorem dX12_quartet_26 : decode cX12_quartet 26 = .ok (.iload_n 2, 1) := eX12_quartet_26.1
theorem dX12_quartet_27 : decode cX12_quartet 27 = .ok (.aload_n 0, 1) := eX12_quartet_26.2.1
theorem dX12_quartet_28 : decode cX12_quartet 28 = .ok (.getfield 35, 3) := eX12_quartet_26.2.2.1
theorem dX12_quartet_31 : decode cX12_quartet 31 = .ok (.iconst 0, 1) := eX12_quartet_26.2.2.2.1
theorem dX12_quartet_32 : decode cX12_quartet 32 = .ok (.iaload, 1) := eX12_quartet_26.2.2.2.2.1
theorem dX12_quartet_33 : decode cX12_quartet 33 = .ok (.if_icmp .ge 34, 3) := eX12_quartet_26.2.2.2.2.2.1
theorem dX12_quartet_36 : decode cX12_quartet 36 = .ok (.aload_n 0, 1) := eX12_quartet_26.2.2.2.2.2.2.1
theorem dX12_quartet_37 : decode cX12_quartet 37 = .ok (.iload_n 1, 1) := eX12_quartet_26.2.2.2.2.2.2.2.1
theorem eX12_quartet_38 : decode cX12_quartet 38 = .ok (.iload_n 2, 1) ∧ decode cX12_quartet 39 = .ok (.invokevirtual 276, 3) ∧ decode cX12_quartet 42 = .ok (.ifCond .le 19, 3) ∧ decode cX12_quartet 45 = .ok (.aload_n 0, 1) ∧ decode cX12_quartet 46 = .ok (.iload_n 1, 1) ∧ decode cX12_quartet 47 = .ok (.iload_n 2, 1) ∧ decode cX12_quartet 48 = .ok (.invokevirtual 276, 3) ∧ decode cX12_quartet 51 = .ok (.aload_n 0, 1) ∧ True := dkl_ok (c := cX12_quartet) [(.iload_n 2, 1), (.invokevirtual 276, 3), (.ifCond .le 19, 3), (.aload_n 0, 1), (.iload_n 1, 1), (.iload_n 2, 1), (.invokevirtual 276, 3), (.aload_n 0, 1)] 38 (by decide +kernel)
theorem dX12_quartet_38 : decode cX12_quartet 38 = .ok (.iload_n 2, 1) := eX12_quartet_38.1
theorem dX12_quartet_39 : decode cX12_quartet 39 = .ok (.invokevirtual 276, 3) := eX12_quartet_38.2.1
theorem dX12_quartet_42 : decode cX12_quartet 42 = .ok (.ifCond .le 19, 3) := eX12_quartet_38.2.2.1
theorem dX12_quartet_45 : decode cX12_quartet 45 = .ok (.aload_n 0, 1) := eX12_quartet_38.2.2.2.1
theorem dX12_quartet_46 : decode cX12_quartet 46 = .ok (.iload_n 1, 1) := eX12_quartet_38.2.2.2.2.1
theorem dX12_quartet_47 : decode cX12_quartet 47 = .ok (.iload_n 2, 1) := eX12_quartet_38.2.2.2.2.2.1
theorem dX12_quartet_48 : decode cX12_quartet 48 = .ok (.invokevirtual 276, 3) := eX12_quartet_38.2.2.2.2.2.2.1
theorem dX12_quartet_51 : decode cX12_quartet 51 = .ok (.aload_n 0, 1) := eX12_quartet_38.2.2.2.2.2.2.2.1
theorem eX12_quartet_52 : decode cX12_quartet 52 = .ok (.iload_n 2, 1) ∧ decode cX12_quartet 53 = .ok (.invokevirtual 302, 3) ∧ decode cX12_quartet 56 = .ok (.if_icmp .ne 5, 3) ∧ decode cX12_quartet 59 = .ok (.iload_n 2, 1) ∧ decode cX12_quartet 60 = .ok (.ireturn, 1) ∧ decode cX12_quartet 61 = .ok (.iinc 2 1, 3) ∧ decode cX12_quartet 64 = .ok (.goto (-38), 3) ∧ decode cX12_quartet 67 = .ok (.aload_n 0, 1) ∧ True := dkl_ok (c := cX12_quartet) [(.iload_n 2, 1), (.invokevirtual 302, 3), (.if_icmp .ne 5, 3), (.iload_n 2, 1), (.ireturn, 1), (.iinc 2 1, 3), (.goto (-38), 3), (.aload_n 0, 1)] 52 (by decide +kernel)
theorem dX12_quartet_52 : decode cX12_quartet 52 = .ok (.iload_n 2, 1) := eX12_quartet_52.1
theorem dX12_quartet_53 : decode cX12_quartet 53 = .ok (.invokevirtual 302, 3) := eX12_quartet_52.2.1
theorem dX12_quartet_56 : decode cX12_quartet 56 = .ok (.if_icmp .ne 5, 3) := eX12_quartet_52.2.2.1
theorem dX12_quartet_59 : decode cX12_quartet 59 = .ok (.iload_n 2, 1) := eX12_quartet_52.2.2.2.1
theorem dX12_quartet_60 : decode cX12_quartet 60 = .ok (.ireturn, 1) := eX12_quartet_52.2.2.2.2.1
theorem dX12_quartet_61 : decode cX12_quartet 61 = .ok (.iinc 2 1, 3) := eX12_quartet_52.2.2.2.2.2.1
theorem dX12_quartet_64 : decode cX12_quartet 64 = .ok (.goto (-38), 3) := eX12_quartet_52.2.2.2.2.2.2.1
theorem dX12_quartet_67 : decode cX12_quartet 67 = .ok (.aload_n 0, 1) := eX12_quartet_52.2.2.2.2.2.2.2.1
theorem eX12_quartet_68 : decode cX12_quartet 68 = .ok (.bipush 8, 2) ∧ decode cX12_quartet 70 = .ok (.invokevirtual 284, 3) ∧ decode cX12_quartet 73 = .ok (.ireturn, 1) ∧ True := dkl_ok (c := cX12_quartet) [(.bipush 8, 2), (.invokevirtual 284, 3), (.ireturn, 1)] 68 (by decide +kernel)
theorem dX12_quartet_68 : decode cX12_quartet 68 = .ok (.bipush 8, 2) := eX12_quartet_68.1
theorem dX12_quartet_70 : decode cX12_quartet 70 = .ok (.invokevirtual 284, 3) := eX12_quartet_68.2.1
theorem dX12_quartet_73 : decode cX12_quartet 73 = .ok (.ireturn, 1) := eX12_quartet_68.2.2.1
theorem eX12_sorts_0 : decode cX12_sorts 0 = .ok (.aload_n 0, 1) ∧ decode cX12_sorts 1 = .ok (.iconst 0, 1) ∧ decode cX12_sorts 2 = .ok (.putfield 59, 3) ∧ decode cX12_sorts 5 = .ok (.aload_n 0, 1) ∧ decode cX12_sorts 6 = .ok (.iconst 0, 1) ∧ decode cX12_sorts 7 = .ok (.putfield 62, 3) ∧ decode cX12_sorts 10 = .ok (.iload_n 1, 1) ∧ decode cX12_sorts 11 = .ok (.i2l, 1) ∧ True := dkl_ok (c := cX12_sorts) [(.aload_n 0, 1), (.iconst 0, 1), (.putfield 59, 3), (.aload_n 0, 1), (.iconst 0, 1), (.putfield 62, 3), (.iload_n 1, 1), (.i2l, 1)] 0 (by decide +kernel)
theorem dX12_sorts_0 : decode cX12_sorts 0 = .ok (.aload_n 0, 1) := eX12_sorts_0.1
theorem dX12_sorts_1 : decode cX12_sorts 1 = .ok (.iconst 0, 1) := eX12_sorts_0.2.1
theorem dX12_sorts_2 : decode cX12_sorts 2 = .ok (.putfield 59, 3) := eX12_sorts_0.2.2.1
theorem dX12_sorts_5 : decode cX12_sorts 5 = .ok (.aload_n 0, 1) := eX12_sorts_0.2.2.2.1
theorem dX12_sorts_6 : decode cX12_sorts 6 = .ok (.iconst 0, 1) := eX12_sorts_0.2.2.2.2.1
theorem dX12_sorts_7 : decode cX12_sorts 7 = .ok (.putfield 62, 3) := eX12_sorts_0.2.2.2.2.2.1
theorem dX12_sorts_10 : decode cX12_sorts 10 = .ok (.iload_n 1, 1) := eX12_sorts_0.2.2.2.2.2.2.1
theorem dX12_sorts_11 : decode cX12_sorts 11 = .ok (.i2l, 1) := eX12_sorts_0.2.2.2.2.2.2.2.1
theorem eX12_sorts_12 : decode cX12_sorts 12 = .ok (.lconst 0, 1) ∧ decode cX12_sorts 13 = .ok (.ldc2_w 365, 3) ∧ decode cX12_sorts 16 = .ok (.invokestatic 94, 3) ∧ decode cX12_sorts 19 = .ok (.ifCond .ne 9, 3) ∧ decode cX12_sorts 22 = .ok (.aload_n 0, 1) ∧ decode cX12_sorts 23 = .ok (.iconst 5, 1) ∧ decode cX12_sorts 24 = .ok (.invokevirtual 284, 3) ∧ decode cX12_sorts 27 = .ok (.ireturn, 1) ∧ True := dkl_ok (c := cX12_sorts) [(.lconst 0, 1), (.ldc2_w 365, 3), (.invokestatic 94, 3), (.ifCond .ne 9, 3), (.aload_n 0, 1), (.iconst 5, 1), (.invokevirtual 284, 3), (.ireturn, 1)] 12 (by decide +kernel)
theorem dX12_sorts_12 : decode cX12_sorts 12 = .ok (.lconst 0, 1) := eX12_sorts_12.1
theorem dX12_sorts_13 : decode cX12_sorts 13 = .ok (.ldc2_w 365, 3) := eX12_sorts_12.2.1
theorem dX12_sorts_16 : decode cX12_sorts 16 = .ok (.invokestatic 94, 3) := eX12_sorts_12.2.2.1
theorem dX12_sorts_19 : decode cX12_sorts 19 = .ok (.ifCond .ne 9, 3) := eX12_sorts_12.2.2.2.1
theorem dX12_sorts_22 : decode cX12_sorts 22 = .ok (.aload_n 0, 1) := eX12_sorts_12.2.2.2.2.1
theorem dX12_sorts_23 : decode cX12_sorts 23 = .ok (.iconst 5, 1) := eX12_sorts_12.2.2.2.2.2.1
theorem dX12_sorts_24 : decode cX12_sorts 24 = .ok (.invokevirtual 284, 3) := eX12_sorts_12.2.2.2.2.2.2.1
theorem dX12_sorts_27 : decode cX12_sorts 27 = .ok (.ireturn, 1) := eX12_sorts_12.2.2.2.2.2.2.2.1
theorem eX12_sorts_28 : decode cX12_sorts 28 = .ok (.iconst 0, 1) ∧ decode cX12_sorts 29 = .ok (.istore_n 2, 1) ∧ decode cX12_sorts 30 = .ok (.iconst 0, 1) ∧ decode cX12_sorts 31 = .ok (.istore_n 3, 1) ∧ decode cX12_sorts 32 = .ok (.iload_n 3, 1) ∧ decode cX12_sorts 33 = .ok (.aload_n 0, 1) ∧ decode cX12_sorts 34 = .ok (.getfield 35, 3) ∧ decode cX12_sorts 37 = .ok (.bipush 9, 2) ∧ True := dkl_ok (c := cX12_sorts) [(.iconst 0, 1), (.istore_n 2, 1), (.iconst 0, 1), (.istore_n 3, 1), (.iload_n 3, 1), (.aload_n 0, 1), (.getfield 35, 3), (.bipush 9, 2)] 28 (by decide +kernel)
theorem dX12_sorts_28 : decode cX12_sorts 28 = .ok (.iconst 0, 1) := eX12_sorts_28.1
theorem dX12_sorts_29 : decode cX12_sorts 29 = .ok (.istore_n 2, 1) := eX12_sorts_28.2.1
theorem dX12_sorts_30 : decode cX12_sorts 30 = .ok (.iconst 0, 1) := eX12_sorts_28.2.2.1
theorem dX12_sorts_31 : decode cX12_sorts 31 = .ok (.istore_n 3, 1) := eX12_sorts_28.2.2.2.1
theorem dX12_sorts_32 : decode cX12_sorts 32 = .ok (.iload_n 3, 1) := eX12_sorts_28.2.2.2.2.1
theorem dX12_sorts_33 : decode cX12_sorts 33 = .ok (.aload_n 0, 1) := eX12_sorts_28.2.2.2.2.2.1
theorem dX12_sorts_34 : decode cX12_sorts 34 = .ok (.getfield 35, 3) := eX12_sorts_28.2.2.2.2.2.2.1
theorem dX12_sorts_37 : decode cX12_sorts 37 = .ok (.bipush 9, 2) := eX12_sorts_28.2.2.2.2.2.2.2.1
theorem eX12_sorts_39 : decode cX12_sorts 39 = .ok (.iaload, 1) ∧ decode cX12_sorts 40 = .ok (.if_icmp .ge 26, 3) ∧ decode cX12_sorts 43 = .ok (.iload_n 2, 1) ∧ decode cX12_sorts 44 = .ok (.aload_n 0, 1) ∧ decode cX12_sorts 45 = .ok (.iload_n 3, 1) ∧ decode cX12_sorts 46 = .ok (.invokevirtual 305, 3) ∧ decode cX12_sorts 49 = .ok (.iload_n 1, 1) ∧ decode cX12_sorts 50 = .ok (.if_icmp .ne 7, 3) ∧ True := dkl_ok (c := cX12_sorts) [(.iaload, 1), (.if_icmp .ge 26, 3), (.iload_n 2, 1), (.aload_n 0, 1), (.iload_n 3, 1), (.invokevirtual 305, 3), (.iload_n 1, 1), (.if_icmp .ne 7, 3)] 39 (by decide +kernel)
theorem dX12_sorts_39 : decode cX12_sorts 39 = .ok (.iaload, 1) := eX12_sorts_39.1
theorem dX12_sorts_40 : decode cX12_sorts 40 = .ok (.if_icmp .ge 26, 3) := eX12_sorts_39.2.1
theorem dX12_sorts_43 : decode cX12_sorts 43 = .ok (.iload_n 2, 1) := eX12_sorts_39.2.2.1
theorem dX12_sorts_44 : decode cX12_sorts 44 = .ok (.aload_n 0, 1) := eX12_sorts_39.2.2.2.1
theorem dX12_sorts_45 : decode cX12_sorts 45 = .ok (.iload_n 3, 1) := eX12_sorts_39.2.2.2.2.1
theorem dX12_sorts_46 : decode cX12_sorts 46 = .ok (.invokevirtual 305, 3) := eX12_sorts_39.2.2.2.2.2.1
theorem dX12_sorts_49 : decode cX12_sorts 49 = .ok (.iload_n 1, 1) := eX12_sorts_39.2.2.2.2.2.2.1
theorem dX12_sorts_50 : decode cX12_sorts 50 = .ok (.if_icmp .ne 7, 3) := eX12_sorts_39.2.2.2.2.2.2.2.1
theorem eX12_sorts_53 : decode cX12_sorts 53 = .ok (.iconst 1, 1) ∧ decode cX12_sorts 54 = .ok (.goto 4, 3) ∧ decode cX12_sorts 57 = .ok (.iconst 0, 1) ∧ decode cX12_sorts 58 = .ok (.iadd, 1) ∧ decode cX12_sorts 59 = .ok (.istore_n 2, 1) ∧ decode cX12_sorts 60 = .ok (.iinc 3 1, 3) ∧ decode cX12_sorts 63 = .ok (.goto (-31), 3) ∧ decode cX12_sorts 66 = .ok (.iload_n 2, 1) ∧ True := dkl_ok (c := cX12_sorts) [(.iconst 1, 1), (.goto 4, 3), (.iconst 0, 1), (.iadd, 1), (.istore_n 2, 1), (.iinc 3 1, 3), (.goto (-31), 3), (.iload_n 2, 1)] 53 (by decide +kernel)
theorem dX12_sorts_53 : decode cX12_sorts 53 = .ok (.iconst 1, 1) := eX12_sorts_53.1
theorem dX12_sorts_54 : decode cX12_sorts 54 = .ok (.goto 4, 3) := eX12_sorts_53.2.1
theorem dX12_sorts_57 : decode cX12_sorts 57 = .ok (.iconst 0, 1) := eX12_sorts_53.2.2.1
theorem dX12_sorts_58 : decode cX12_sorts 58 = .ok (.iadd, 1) := eX12_sorts_53.2.2.2.1
theorem dX12_sorts_59 : decode cX12_sorts 59 = .ok (.istore_n 2, 1) := eX12_sorts_53.2.2.2.2.1
theorem dX12_sorts_60 : decode cX12_sorts 60 = .ok (.iinc 3 1, 3) := eX12_sorts_53.2.2.2.2.2.1
theorem dX12_sorts_63 : decode cX12_sorts 63 = .ok (.goto (-31), 3) := eX12_sorts_53.2.2.2.2.2.2.1
theorem dX12_sorts_66 : decode cX12_sorts 66 = .ok (.iload_n 2, 1) := eX12_sorts_53.2.2.2.2.2.2.2.1
theorem eX12_sorts_67 : decode cX12_sorts 67 = .ok (.ireturn, 1) ∧ True := dkl_ok (c := cX12_sorts) [(.ireturn, 1)] 67 (by decide +kernel)
theorem dX12_sorts_67 : decode cX12_sorts 67 = .ok (.ireturn, 1) := eX12_sorts_67.1
theorem eX12_liar_0 : decode cX12_liar 0 = .ok (.aload_n 0, 1) ∧ decode cX12_liar 1 = .ok (.iconst 0, 1) ∧ decode cX12_liar 2 = .ok (.putfield 59, 3) ∧ decode cX12_liar 5 = .ok (.aload_n 0, 1) ∧ decode cX12_liar 6 = .ok (.iconst 0, 1) ∧ decode cX12_liar 7 = .ok (.putfield 62, 3) ∧ decode cX12_liar 10 = .ok (.iconst (-1), 1) ∧ decode cX12_liar 11 = .ok (.istore_n 1, 1) ∧ True := dkl_ok (c := cX12_liar) [(.aload_n 0, 1), (.iconst 0, 1), (.putfield 59, 3), (.aload_n 0, 1), (.iconst 0, 1), (.putfield 62, 3), (.iconst (-1), 1), (.istore_n 1, 1)] 0 (by decide +kernel)
theorem dX12_liar_0 : decode cX12_liar 0 = .ok (.aload_n 0, 1) := eX12_liar_0.1
theorem dX12_liar_1 : decode cX12_liar 1 = .ok (.iconst 0, 1) := eX12_liar_0.2.1
theorem dX12_liar_2 : decode cX12_liar 2 = .ok (.putfield 59, 3) := eX12_liar_0.2.2.1
theorem dX12_liar_5 : decode cX12_liar 5 = .ok (.aload_n 0, 1) := eX12_liar_0.2.2.2.1
theorem dX12_liar_6 : decode cX12_liar 6 = .ok (.iconst 0, 1) := eX12_liar_0.2.2.2.2.1
theorem dX12_liar_7 : decode cX12_liar 7 = .ok (.putfield 62, 3) := eX12_liar_0.2.2.2.2.2.1
theorem dX12_liar_10 : decode cX12_liar 10 = .ok (.iconst (-1), 1) := eX12_liar_0.2.2.2.2.2.2.1
theorem dX12_liar_11 : decode cX12_liar 11 = .ok (.istore_n 1, 1) := eX12_liar_0.2.2.2.2.2.2.2.1
theorem eX12_liar_12 : decode cX12_liar 12 = .ok (.iconst 0, 1) ∧ decode cX12_liar 13 = .ok (.istore_n 2, 1) ∧ decode cX12_liar 14 = .ok (.iload_n 2, 1) ∧ decode cX12_liar 15 = .ok (.aload_n 0, 1) ∧ decode cX12_liar 16 = .ok (.getfield 35, 3) ∧ decode cX12_liar 19 = .ok (.iconst 2, 1) ∧ decode cX12_liar 20 = .ok (.iaload, 1) ∧ decode cX12_liar 21 = .ok (.if_icmp .ge 99, 3) ∧ True := dkl_ok (c := cX12_liar) [(.iconst 0, 1), (.istore_n 2, 1), (.iload_n 2, 1), (.aload_n 0, 1), (.getfield 35, 3), (.iconst 2, 1), (.iaload, 1), (.if_icmp .ge 99, 3)] 12 (by decide +kernel)
theorem dX12_liar_12 : decode cX12_liar 12 = .ok (.iconst 0, 1) := eX12_liar_12.1
theorem dX12_liar_13 : decode cX12_liar 13 = .ok (.istore_n 2, 1) := eX12_liar_12.2.1
theorem dX12_liar_14 : decode cX12_liar 14 = .ok (.iload_n 2, 1) := eX12_liar_12.2.2.1
theorem dX12_liar_15 : decode cX12_liar 15 = .ok (.aload_n 0, 1) := eX12_liar_12.2.2.2.1
theorem dX12_liar_16 : decode cX12_liar 16 = .ok (.getfield 35, 3) := eX12_liar_12.2.2.2.2.1
theorem dX12_liar_19 : decode cX12_liar 19 = .ok (.iconst 2, 1) := eX12_liar_12.2.2.2.2.2.1
theorem dX12_liar_20 : decode cX12_liar 20 = .ok (.iaload, 1) := eX12_liar_12.2.2.2.2.2.2.1
theorem dX12_liar_21 : decode cX12_liar 21 = .ok (.if_icmp .ge 99, 3) := eX12_liar_12.2.2.2.2.2.2.2.1
theorem eX12_liar_24 : decode cX12_liar 24 = .ok (.iload_n 1, 1) ∧ decode cX12_liar 25 = .ok (.ifCond .ge 8, 3) ∧ decode cX12_liar 28 = .ok (.iload_n 2, 1) ∧ decode cX12_liar 29 = .ok (.istore_n 1, 1) ∧ decode cX12_liar 30 = .ok (.goto 84, 3) ∧ decode cX12_liar 33 = .ok (.aload_n 0, 1) ∧ decode cX12_liar 34 = .ok (.getfield 35, 3) ∧ decode cX12_liar 37 = .ok (.bipush 22, 2) ∧ True := dkl_ok (c := cX12_liar) [(.iload_n 1, 1), (.ifCond .ge 8, 3), (.iload_n 2, 1), (.istore_n 1, 1), (.goto 84, 3), (.aload_n 0, 1), (.getfield 35, 3), (.bipush 22, 2)] 24 (by decide +kernel)
theorem dX12_liar_24 : decode cX12_liar 24 = .ok (.iload_n 1, 1) := eX12_liar_24.1
theorem dX12_liar_25 : decode cX12_liar 25 = .ok (.ifCond .ge 8, 3) := eX12_liar_24.2.1
theorem dX12_liar_28 : decode cX12_liar 28 = .ok (.iload_n 2, 1) := eX12_liar_24.2.2.1
theorem dX12_liar_29 : decode cX12_liar 29 = .ok (.istore_n 1, 1) := eX12_liar_24.2.2.2.1
theorem dX12_liar_30 : decode cX12_liar 30 = .ok (.goto 84, 3) := eX12_liar_24.2.2.2.2.1
theorem dX12_liar_33 : decode cX12_liar 33 = .ok (.aload_n 0, 1) := eX12_liar_24.2.2.2.2.2.1
theorem dX12_liar_34 : decode cX12_liar 34 = .ok (.getfield 35, 3) := eX12_liar_24.2.2.2.2.2.2.1
theorem dX12_liar_37 : decode cX12_liar 37 = .ok (.bipush 22, 2) := eX12_liar_24.2.2.2.2.2.2.2.1
theorem eX12_liar_39 : decode cX12_liar 39 = .ok (.iload_n 2, 1) ∧ decode cX12_liar 40 = .ok (.iadd, 1) ∧ decode cX12_liar 41 = .ok (.iaload, 1) ∧ decode cX12_liar 42 = .ok (.aload_n 0, 1) ∧ decode cX12_liar 43 = .ok (.getfield 35, 3) ∧ decode cX12_liar 46 = .ok (.bipush 28, 2) ∧ decode cX12_liar 48 = .ok (.iload_n 2, 1) ∧ decode cX12_liar 49 = .ok (.iadd, 1) ∧ True := dkl_ok (c := cX12_liar) [(.iload_n 2, 1), (.iadd, 1), (.iaload, 1), (.aload_n 0, 1), (.getfield 35, 3), (.bipush 28, 2), (.iload_n 2, 1), (.iadd, 1)] 39 (by decide +kernel)
theorem dX12_liar_39 : decode cX12_liar 39 = .ok (.iload_n 2, 1) := eX12_liar_39.1
theorem dX12_liar_40 : decode cX12_liar 40 = .ok (.iadd, 1) := eX12_liar_39.2.1
theorem dX12_liar_41 : decode cX12_liar 41 = .ok (.iaload, 1) := eX12_liar_39.2.2.1
theorem dX12_liar_42 : decode cX12_liar 42 = .ok (.aload_n 0, 1) := eX12_liar_39.2.2.2.1
theorem dX12_liar_43 : decode cX12_liar 43 = .ok (.getfield 35, 3) := eX12_liar_39.2.2.2.2.1
theorem dX12_liar_46 : decode cX12_liar 46 = .ok (.bipush 28, 2) := eX12_liar_39.2.2.2.2.2.1
theorem dX12_liar_48 : decode cX12_liar 48 = .ok (.iload_n 2, 1) := eX12_liar_39.2.2.2.2.2.2.1
theorem dX12_liar_49 : decode cX12_liar 49 = .ok (.iadd, 1) := eX12_liar_39.2.2.2.2.2.2.2.1
theorem eX12_liar_50 : decode cX12_liar 50 = .ok (.iaload, 1) ∧ decode cX12_liar 51 = .ok (.isub, 1) ∧ decode cX12_liar 52 = .ok (.iconst 1, 1) ∧ decode cX12_liar 53 = .ok (.iadd, 1) ∧ decode cX12_liar 54 = .ok (.aload_n 0, 1) ∧ decode cX12_liar 55 = .ok (.getfield 35, 3) ∧ decode cX12_liar 58 = .ok (.bipush 22, 2) ∧ decode cX12_liar 60 = .ok (.iload_n 1, 1) ∧ True := dkl_ok (c := cX12_liar) [(.iaload, 1), (.isub, 1), (.iconst 1, 1), (.iadd, 1), (.aload_n 0, 1), (.getfield 35, 3), (.bipush 22, 2), (.iload_n 1, 1)] 50 (by decide +kernel)
theorem dX12_liar_50 : decode cX12_liar 50 = .ok (.iaload, 1) := eX12_liar_50.1
theorem dX12_liar_51 : decode cX12_liar 51 = .ok (.isub, 1) := eX12_liar_50.2.1
theorem dX12_liar_52 : decode cX12_liar 52 = .ok (.iconst 1, 1) := eX12_liar_50.2.2.1
theorem dX12_liar_53 : decode cX12_liar 53 = .ok (.iadd, 1) := eX12_liar_50.2.2.2.1
theorem dX12_liar_54 : decode cX12_liar 54 = .ok (.aload_n 0, 1) := eX12_liar_50.2.2.2.2.1
theorem dX12_liar_55 : decode cX12_liar 55 = .ok (.getfield 35, 3) := eX12_liar_50.2.2.2.2.2.1
theorem dX12_liar_58 : decode cX12_liar 58 = .ok (.bipush 22, 2) := eX12_liar_50.2.2.2.2.2.2.1
theorem dX12_liar_60 : decode cX12_liar 60 = .ok (.iload_n 1, 1) := eX12_liar_50.2.2.2.2.2.2.2.1
theorem eX12_liar_61 : decode cX12_liar 61 = .ok (.iadd, 1) ∧ decode cX12_liar 62 = .ok (.iaload, 1) ∧ decode cX12_liar 63 = .ok (.iconst 2, 1) ∧ decode cX12_liar 64 = .ok (.iadd, 1) ∧ decode cX12_liar 65 = .ok (.imul, 1) ∧ decode cX12_liar 66 = .ok (.istore_n 3, 1) ∧ decode cX12_liar 67 = .ok (.aload_n 0, 1) ∧ decode cX12_liar 68 = .ok (.getfield 35, 3) ∧ True := dkl_ok (c := cX12_liar) [(.iadd, 1), (.iaload, 1), (.iconst 2, 1), (.iadd, 1), (.imul, 1), (.istore_n 3, 1), (.aload_n 0, 1), (.getfield 35, 3)] 61 (by decide +kernel)
theorem dX12_liar_61 : decode cX12_liar 61 = .ok (.iadd, 1) := eX12_liar_61.1
theorem dX12_liar_62 : decode cX12_liar 62 = .ok (.iaload, 1) := eX12_liar_61.2.1
theorem dX12_liar_63 : decode cX12_liar 63 = .ok (.iconst 2, 1) := eX12_liar_61.2.2.1
theorem dX12_liar_64 : decode cX12_liar 64 = .ok (.iadd, 1) := eX12_liar_61.2.2.2.1
theorem dX12_liar_65 : decode cX12_liar 65 = .ok (.imul, 1) := eX12_liar_61.2.2.2.2.1
theorem dX12_liar_66 : decode cX12_liar 66 = .ok (.istore_n 3, 1) := eX12_liar_61.2.2.2.2.2.1
theorem dX12_liar_67 : decode cX12_liar 67 = .ok (.aload_n 0, 1) := eX12_liar_61.2.2.2.2.2.2.1
theorem dX12_liar_68 : decode cX12_liar 68 = .ok (.getfield 35, 3) := eX12_liar_61.2.2.2.2.2.2.2.1
theorem eX12_liar_71 : decode cX12_liar 71 = .ok (.bipush 22, 2) ∧ decode cX12_liar 73 = .ok (.iload_n 1, 1) ∧ decode cX12_liar 74 = .ok (.iadd, 1) ∧ decode cX12_liar 75 = .ok (.iaload, 1) ∧ decode cX12_liar 76 = .ok (.aload_n 0, 1) ∧ decode cX12_liar 77 = .ok (.getfield 35, 3) ∧ decode cX12_liar 80 = .ok (.bipush 28, 2) ∧ decode cX12_liar 82 = .ok (.iload_n 1, 1) ∧ True := dkl_ok (c := cX12_liar) [(.bipush 22, 2), (.iload_n 1, 1), (.iadd, 1), (.iaload, 1), (.aload_n 0, 1), (.getfield 35, 3), (.bipush 28, 2), (.iload_n 1, 1)] 71 (by decide +kernel)
theorem dX12_liar_71 : decode cX12_liar 71 = .ok (.bipush 22, 2) := eX12_liar_71.1
theorem dX12_liar_73 : decode cX12_liar 73 = .ok (.iload_n 1, 1) := eX12_liar_71.2.1
theorem dX12_liar_74 : decode cX12_liar 74 = .ok (.iadd, 1) := eX12_liar_71.2.2.1
theorem dX12_liar_75 : decode cX12_liar 75 = .ok (.iaload, 1) := eX12_liar_71.2.2.2.1
theorem dX12_liar_76 : decode cX12_liar 76 = .ok (.aload_n 0, 1) := eX12_liar_71.2.2.2.2.1
theorem dX12_liar_77 : decode cX12_liar 77 = .ok (.getfield 35, 3) := eX12_liar_71.2.2.2.2.2.1
theorem dX12_liar_80 : decode cX12_liar 80 = .ok (.bipush 28, 2) := eX12_liar_71.2.2.2.2.2.2.1
theorem dX12_liar_82 : decode cX12_liar 82 = .ok (.iload_n 1, 1) := eX12_liar_71.2.2.2.2.2.2.2.1
theorem eX12_liar_83 : decode cX12_liar 83 = .ok (.iadd, 1) ∧ decode cX12_liar 84 = .ok (.iaload, 1) ∧ decode cX12_liar 85 = .ok (.isub, 1) ∧ decode cX12_liar 86 = .ok (.iconst 1, 1) ∧ decode cX12_liar 87 = .ok (.iadd, 1) ∧ decode cX12_liar 88 = .ok (.aload_n 0, 1) ∧ decode cX12_liar 89 = .ok (.getfield 35, 3) ∧ decode cX12_liar 92 = .ok (.bipush 22, 2) ∧ True := dkl_ok (c := cX12_liar) [(.iadd, 1), (.iaload, 1), (.isub, 1), (.iconst 1, 1), (.iadd, 1), (.aload_n 0, 1), (.getfield 35, 3), (.bipush 22, 2)] 83 (by decide +kernel)
theorem dX12_liar_83 : decode cX12_liar 83 = .ok (.iadd, 1) := eX12_liar_83.1
theorem dX12_liar_84 : decode cX12_liar 84 = .ok (.iaload, 1) := eX12_liar_83.2.1
theorem dX12_liar_85 : decode cX12_liar 85 = .ok (.isub, 1) := eX12_liar_83.2.2.1
theorem dX12_liar_86 : decode cX12_liar 86 = .ok (.iconst 1, 1) := eX12_liar_83.2.2.2.1
theorem dX12_liar_87 : decode cX12_liar 87 = .ok (.iadd, 1) := eX12_liar_83.2.2.2.2.1
theorem dX12_liar_88 : decode cX12_liar 88 = .ok (.aload_n 0, 1) := eX12_liar_83.2.2.2.2.2.1
theorem dX12_liar_89 : decode cX12_liar 89 = .ok (.getfield 35, 3) := eX12_liar_83.2.2.2.2.2.2.1
theorem dX12_liar_92 : decode cX12_liar 92 = .ok (.bipush 22, 2) := eX12_liar_83.2.2.2.2.2.2.2.1
theorem eX12_liar_94 : decode cX12_liar 94 = .ok (.iload_n 2, 1) ∧ decode cX12_liar 95 = .ok (.iadd, 1) ∧ decode cX12_liar 96 = .ok (.iaload, 1) ∧ decode cX12_liar 97 = .ok (.iconst 2, 1) ∧ decode cX12_liar 98 = .ok (.iadd, 1) ∧ decode cX12_liar 99 = .ok (.imul, 1) ∧ decode cX12_liar 100 = .ok (.istore 4, 2) ∧ decode cX12_liar 102 = .ok (.iload_n 3, 1) ∧ True := dkl_ok (c := cX12_liar) [(.iload_n 2, 1), (.iadd, 1), (.iaload, 1), (.iconst 2, 1), (.iadd, 1), (.imul, 1), (.istore 4, 2), (.iload_n 3, 1)] 94 (by decide +kernel)
theorem dX12_liar_94 : decode cX12_liar 94 = .ok (.iload_n 2, 1) := eX12_liar_94.1
theorem dX12_liar_95 : decode cX12_liar 95 = .ok (.iadd, 1) := eX12_liar_94.2.1
theorem dX12_liar_96 : decode cX12_liar 96 = .ok (.iaload, 1) := eX12_liar_94.2.2.1
theorem dX12_liar_97 : decode cX12_liar 97 = .ok (.iconst 2, 1) := eX12_liar_94.2.2.2.1
theorem dX12_liar_98 : decode cX12_liar 98 = .ok (.iadd, 1) := eX12_liar_94.2.2.2.2.1
theorem dX12_liar_99 : decode cX12_liar 99 = .ok (.imul, 1) := eX12_liar_94.2.2.2.2.2.1
theorem dX12_liar_100 : decode cX12_liar 100 = .ok (.istore 4, 2) := eX12_liar_94.2.2.2.2.2.2.1
theorem dX12_liar_102 : decode cX12_liar 102 = .ok (.iload_n 3, 1) := eX12_liar_94.2.2.2.2.2.2.2.1
theorem eX12_liar_103 : decode cX12_liar 103 = .ok (.iload 4, 2) ∧ decode cX12_liar 105 = .ok (.if_icmp .ge 7, 3) ∧ decode cX12_liar 108 = .ok (.iload_n 2, 1) ∧ decode cX12_liar 109 = .ok (.goto 4, 3) ∧ decode cX12_liar 112 = .ok (.iload_n 1, 1) ∧ decode cX12_liar 113 = .ok (.istore_n 1, 1) ∧ decode cX12_liar 114 = .ok (.iinc 2 1, 3) ∧ decode cX12_liar 117 = .ok (.goto (-103), 3) ∧ True := dkl_ok (c := cX12_liar) [(.iload 4, 2), (.if_icmp .ge 7, 3), (.iload_n 2, 1), (.goto 4, 3), (.iload_n 1, 1), (.istore_n 1, 1), (.iinc 2 1, 3), (.goto (-103), 3)] 103 (by decide +kernel)
theorem dX12_liar_103 : decode cX12_liar 103 = .ok (.iload 4, 2) := eX12_liar_103.1
theorem dX12_liar_105 : decode cX12_liar 105 = .ok (.if_icmp .ge 7, 3) := eX12_liar_103.2.1
theorem dX12_liar_108 : decode cX12_liar 108 = .ok (.iload_n 2, 1) := eX12_liar_103.2.2.1
theorem dX12_liar_109 : decode cX12_liar 109 = .ok (.goto 4, 3) := eX12_liar_103.2.2.2.1
theorem dX12_liar_112 : decode cX12_liar 112 = .ok (.iload_n 1, 1) := eX12_liar_103.2.2.2.2.1
theorem dX12_liar_113 : decode cX12_liar 113 = .ok (.istore_n 1, 1) := eX12_liar_103.2.2.2.2.2.1
theorem dX12_liar_114 : decode cX12_liar 114 = .ok (.iinc 2 1, 3) := eX12_liar_103.2.2.2.2.2.2.1
theorem dX12_liar_117 : decode cX12_liar 117 = .ok (.goto (-103), 3) := eX12_liar_103.2.2.2.2.2.2.2.1
theorem eX12_liar_120 : decode cX12_liar 120 = .ok (.iload_n 1, 1) ∧ decode cX12_liar 121 = .ok (.ifCond .ge 12, 3) ∧ decode cX12_liar 124 = .ok (.aload_n 0, 1) ∧ decode cX12_liar 125 = .ok (.bipush 8, 2) ∧ decode cX12_liar 127 = .ok (.invokevirtual 284, 3) ∧ decode cX12_liar 130 = .ok (.goto 4, 3) ∧ decode cX12_liar 133 = .ok (.iload_n 1, 1) ∧ decode cX12_liar 134 = .ok (.ireturn, 1) ∧ True := dkl_ok (c := cX12_liar) [(.iload_n 1, 1), (.ifCond .ge 12, 3), (.aload_n 0, 1), (.bipush 8, 2), (.invokevirtual 284, 3), (.goto 4, 3), (.iload_n 1, 1), (.ireturn, 1)] 120 (by decide +kernel)
theorem dX12_liar_120 : decode cX12_liar 120 = .ok (.iload_n 1, 1) := eX12_liar_120.1
theorem dX12_liar_121 : decode cX12_liar 121 = .ok (.ifCond .ge 12, 3) := eX12_liar_120.2.1
theorem dX12_liar_124 : decode cX12_liar 124 = .ok (.aload_n 0, 1) := eX12_liar_120.2.2.1
theorem dX12_liar_125 : decode cX12_liar 125 = .ok (.bipush 8, 2) := eX12_liar_120.2.2.2.1
theorem dX12_liar_127 : decode cX12_liar 127 = .ok (.invokevirtual 284, 3) := eX12_liar_120.2.2.2.2.1
theorem dX12_liar_130 : decode cX12_liar 130 = .ok (.goto 4, 3) := eX12_liar_120.2.2.2.2.2.1
theorem dX12_liar_133 : decode cX12_liar 133 = .ok (.iload_n 1, 1) := eX12_liar_120.2.2.2.2.2.2.1
theorem dX12_liar_134 : decode cX12_liar 134 = .ok (.ireturn, 1) := eX12_liar_120.2.2.2.2.2.2.2.1
theorem eX12_draw_0 : decode cX12_draw 0 = .ok (.aload_n 0, 1) ∧ decode cX12_draw 1 = .ok (.aload_n 0, 1) ∧ decode cX12_draw 2 = .ok (.getfield 395, 3) ∧ decode cX12_draw 5 = .ok (.sipush 2861, 3) ∧ decode cX12_draw 8 = .ok (.imul, 1) ∧ decode cX12_draw 9 = .ok (.sipush 10259, 3) ∧ decode cX12_draw 12 = .ok (.iadd, 1) ∧ decode cX12_draw 13 = .ok (.ldc_w 398, 3) ∧ True := dkl_ok (c := cX12_draw) [(.aload_n 0, 1), (.aload_n 0, 1), (.getfield 395, 3), (.sipush 2861, 3), (.imul, 1), (.sipush 10259, 3), (.iadd, 1), (.ldc_w 398, 3)] 0 (by decide +kernel)
theorem dX12_draw_0 : decode cX12_draw 0 = .ok (.aload_n 0, 1) := eX12_draw_0.1
theorem dX12_draw_1 : decode cX12_draw 1 = .ok (.aload_n 0, 1) := eX12_draw_0.2.1
theorem dX12_draw_2 : decode cX12_draw 2 = .ok (.getfield 395, 3) := eX12_draw_0.2.2.1
theorem dX12_draw_5 : decode cX12_draw 5 = .ok (.sipush 2861, 3) := eX12_draw_0.2.2.2.1
theorem dX12_draw_8 : decode cX12_draw 8 = .ok (.imul, 1) := eX12_draw_0.2.2.2.2.1
theorem dX12_draw_9 : decode cX12_draw 9 = .ok (.sipush 10259, 3) := eX12_draw_0.2.2.2.2.2.1
theorem dX12_draw_12 : decode cX12_draw 12 = .ok (.iadd, 1) := eX12_draw_0.2.2.2.2.2.2.1
theorem dX12_draw_13 : decode cX12_draw 13 = .ok (.ldc_w 398, 3) := eX12_draw_0.2.2.2.2.2.2.2.1
theorem eX12_draw_16 : decode cX12_draw 16 = .ok (.irem, 1) ∧ decode cX12_draw 17 = .ok (.putfield 395, 3) ∧ decode cX12_draw 20 = .ok (.aload_n 0, 1) ∧ decode cX12_draw 21 = .ok (.getfield 395, 3) ∧ decode cX12_draw 24 = .ok (.bipush 8, 2) ∧ decode cX12_draw 26 = .ok (.idiv, 1) ∧ decode cX12_draw 27 = .ok (.bipush 16, 2) ∧ decode cX12_draw 29 = .ok (.irem, 1) ∧ True := dkl_ok (c := cX12_draw) [(.irem, 1), (.putfield 395, 3), (.aload_n 0, 1), (.getfield 395, 3), (.bipush 8, 2), (.idiv, 1), (.bipush 16, 2), (.irem, 1)] 16 (by decide +kernel)
theorem dX12_draw_16 : decode cX12_draw 16 = .ok (.irem, 1) := eX12_draw_16.1
theorem dX12_draw_17 : decode cX12_draw 17 = .ok (.putfield 395, 3) := eX12_draw_16.2.1
theorem dX12_draw_20 : decode cX12_draw 20 = .ok (.aload_n 0, 1) := eX12_draw_16.2.2.1
theorem dX12_draw_21 : decode cX12_draw 21 = .ok (.getfield 395, 3) := eX12_draw_16.2.2.2.1
theorem dX12_draw_24 : decode cX12_draw 24 = .ok (.bipush 8, 2) := eX12_draw_16.2.2.2.2.1
theorem dX12_draw_26 : decode cX12_draw 26 = .ok (.idiv, 1) := eX12_draw_16.2.2.2.2.2.1
theorem dX12_draw_27 : decode cX12_draw 27 = .ok (.bipush 16, 2) := eX12_draw_16.2.2.2.2.2.2.1
theorem dX12_draw_29 : decode cX12_draw 29 = .ok (.irem, 1) := eX12_draw_16.2.2.2.2.2.2.2.1
theorem eX12_draw_30 : decode cX12_draw 30 = .ok (.ireturn, 1) ∧ True := dkl_ok (c := cX12_draw) [(.ireturn, 1)] 30 (by decide +kernel)
theorem dX12_draw_30 : decode cX12_draw 30 = .ok (.ireturn, 1) := eX12_draw_30.1
theorem eX12_otherKind_0 : decode cX12_otherKind 0 = .ok (.iconst (-1), 1) ∧ decode cX12_otherKind 1 = .ok (.istore_n 2, 1) ∧ decode cX12_otherKind 2 = .ok (.iconst 0, 1) ∧ decode cX12_otherKind 3 = .ok (.istore_n 3, 1) ∧ decode cX12_otherKind 4 = .ok (.iload_n 3, 1) ∧ decode cX12_otherKind 5 = .ok (.aload_n 0, 1) ∧ decode cX12_otherKind 6 = .ok (.getfield 35, 3) ∧ decode cX12_otherKind 9 = .ok (.iconst 0, 1) ∧ True := dkl_ok (c := cX12_otherKind) [(.iconst (-1), 1), (.istore_n 2, 1), (.iconst 0, 1), (.istore_n 3, 1), (.iload_n 3, 1), (.aload_n 0, 1), (.getfield 35, 3), (.iconst 0, 1)] 0 (by decide +kernel)
theorem dX12_otherKind_0 : decode cX12_otherKind 0 = .ok (.iconst (-1), 1) := eX12_otherKind_0.1
theorem dX12_otherKind_1 : decode cX12_otherKind 1 = .ok (.istore_n 2, 1) := eX12_otherKind_0.2.1
theorem dX12_otherKind_2 : decode cX12_otherKind 2 = .ok (.iconst 0, 1) := eX12_otherKind_0.2.2.1
theorem dX12_otherKind_3 : decode cX12_otherKind 3 = .ok (.istore_n 3, 1) := eX12_otherKind_0.2.2.2.1
theorem dX12_otherKind_4 : decode cX12_otherKind 4 = .ok (.iload_n 3, 1) := eX12_otherKind_0.2.2.2.2.1
theorem dX12_otherKind_5 : decode cX12_otherKind 5 = .ok (.aload_n 0, 1) := eX12_otherKind_0.2.2.2.2.2.1
theorem dX12_otherKind_6 : decode cX12_otherKind 6 = .ok (.getfield 35, 3) := eX12_otherKind_0.2.2.2.2.2.2.1
theorem dX12_otherKind_9 : decode cX12_otherKind 9 = .ok (.iconst 0, 1) := eX12_otherKind_0.2.2.2.2.2.2.2.1
theorem eX12_otherKind_10 : decode cX12_otherKind 10 = .ok (.iaload, 1) ∧ decode cX12_otherKind 11 = .ok (.if_icmp .ge 49, 3) ∧ decode cX12_otherKind 14 = .ok (.iload_n 3, 1) ∧ decode cX12_otherKind 15 = .ok (.aload_n 0, 1) ∧ decode cX12_otherKind 16 = .ok (.getfield 35, 3) ∧ decode cX12_otherKind 19 = .ok (.iconst 5, 1) ∧ decode cX12_otherKind 20 = .ok (.iaload, 1) ∧ decode cX12_otherKind 21 = .ok (.if_icmp .eq 33, 3) ∧ True := dkl_ok (c := cX12_otherKind) [(.iaload, 1), (.if_icmp .ge 49, 3), (.iload_n 3, 1), (.aload_n 0, 1), (.getfield 35, 3), (.iconst 5, 1), (.iaload, 1), (.if_icmp .eq 33, 3)] 10 (by decide +kernel)
theorem dX12_otherKind_10 : decode cX12_otherKind 10 = .ok (.iaload, 1) := eX12_otherKind_10.1
theorem dX12_otherKind_11 : decode cX12_otherKind 11 = .ok (.if_icmp .ge 49, 3) := eX12_otherKind_10.2.1
theorem dX12_otherKind_14 : decode cX12_otherKind 14 = .ok (.iload_n 3, 1) := eX12_otherKind_10.2.2.1
theorem dX12_otherKind_15 : decode cX12_otherKind 15 = .ok (.aload_n 0, 1) := eX12_otherKind_10.2.2.2.1
theorem dX12_otherKind_16 : decode cX12_otherKind 16 = .ok (.getfield 35, 3) := eX12_otherKind_10.2.2.2.2.1
theorem dX12_otherKind_19 : decode cX12_otherKind 19 = .ok (.iconst 5, 1) := eX12_otherKind_10.2.2.2.2.2.1
theorem dX12_otherKind_20 : decode cX12_otherKind 20 = .ok (.iaload, 1) := eX12_otherKind_10.2.2.2.2.2.2.1
theorem dX12_otherKind_21 : decode cX12_otherKind 21 = .ok (.if_icmp .eq 33, 3) := eX12_otherKind_10.2.2.2.2.2.2.2.1
theorem eX12_otherKind_24 : decode cX12_otherKind 24 = .ok (.aload_n 0, 1) ∧ decode cX12_otherKind 25 = .ok (.iload_n 1, 1) ∧ decode cX12_otherKind 26 = .ok (.iload_n 3, 1) ∧ decode cX12_otherKind 27 = .ok (.invokevirtual 276, 3) ∧ decode cX12_otherKind 30 = .ok (.ifCond .le 24, 3) ∧ decode cX12_otherKind 33 = .ok (.iload_n 2, 1) ∧ decode cX12_otherKind 34 = .ok (.ifCond .lt 18, 3) ∧ decode cX12_otherKind 37 = .ok (.aload_n 0, 1) ∧ True := dkl_ok (c := cX12_otherKind) [(.aload_n 0, 1), (.iload_n 1, 1), (.iload_n 3, 1), (.invokevirtual 276, 3), (.ifCond .le 24, 3), (.iload_n 2, 1), (.ifCond .lt 18, 3), (.aload_n 0, 1)] 24 (by decide +kernel)
theorem dX12_otherKind_24 : decode cX12_otherKind 24 = .ok (.aload_n 0, 1) := eX12_otherKind_24.1
theorem dX12_otherKind_25 : decode cX12_otherKind 25 = .ok (.iload_n 1, 1) := eX12_otherKind_24.2.1
theorem dX12_otherKind_26 : decode cX12_otherKind 26 = .ok (.iload_n 3, 1) := eX12_otherKind_24.2.2.1
theorem dX12_otherKind_27 : decode cX12_otherKind 27 = .ok (.invokevirtual 276, 3) := eX12_otherKind_24.2.2.2.1
theorem dX12_otherKind_30 : decode cX12_otherKind 30 = .ok (.ifCond .le 24, 3) := eX12_otherKind_24.2.2.2.2.1
theorem dX12_otherKind_33 : decode cX12_otherKind 33 = .ok (.iload_n 2, 1) := eX12_otherKind_24.2.2.2.2.2.1
theorem dX12_otherKind_34 : decode cX12_otherKind 34 = .ok (.ifCond .lt 18, 3) := eX12_otherKind_24.2.2.2.2.2.2.1
theorem dX12_otherKind_37 : decode cX12_otherKind 37 = .ok (.aload_n 0, 1) := eX12_otherKind_24.2.2.2.2.2.2.2.1
theorem eX12_otherKind_38 : decode cX12_otherKind 38 = .ok (.iload_n 1, 1) ∧ decode cX12_otherKind 39 = .ok (.iload_n 3, 1) ∧ decode cX12_otherKind 40 = .ok (.invokevirtual 276, 3) ∧ decode cX12_otherKind 43 = .ok (.aload_n 0, 1) ∧ decode cX12_otherKind 44 = .ok (.iload_n 1, 1) ∧ decode cX12_otherKind 45 = .ok (.iload_n 2, 1) ∧ decode cX12_otherKind 46 = .ok (.invokevirtual 276, 3) ∧ decode cX12_otherKind 49 = .ok (.if_icmp .le 5, 3) ∧ True := dkl_ok (c := cX12_otherKind) [(.iload_n 1, 1), (.iload_n 3, 1), (.invokevirtual 276, 3), (.aload_n 0, 1), (.iload_n 1, 1), (.iload_n 2, 1), (.invokevirtual 276, 3), (.if_icmp .le 5, 3)] 38 (by decide +kernel)
theorem dX12_otherKind_38 : decode cX12_otherKind 38 = .ok (.iload_n 1, 1) := eX12_otherKind_38.1
theorem dX12_otherKind_39 : decode cX12_otherKind 39 = .ok (.iload_n 3, 1) := eX12_otherKind_38.2.1
theorem dX12_otherKind_40 : decode cX12_otherKind 40 = .ok (.invokevirtual 276, 3) := eX12_otherKind_38.2.2.1
theorem dX12_otherKind_43 : decode cX12_otherKind 43 = .ok (.aload_n 0, 1) := eX12_otherKind_38.2.2.2.1
theorem dX12_otherKind_44 : decode cX12_otherKind 44 = .ok (.iload_n 1, 1) := eX12_otherKind_38.2.2.2.2.1
theorem dX12_otherKind_45 : decode cX12_otherKind 45 = .ok (.iload_n 2, 1) := eX12_otherKind_38.2.2.2.2.2.1
theorem dX12_otherKind_46 : decode cX12_otherKind 46 = .ok (.invokevirtual 276, 3) := eX12_otherKind_38.2.2.2.2.2.2.1
theorem dX12_otherKind_49 : decode cX12_otherKind 49 = .ok (.if_icmp .le 5, 3) := eX12_otherKind_38.2.2.2.2.2.2.2.1
theorem eX12_otherKind_52 : decode cX12_otherKind 52 = .ok (.iload_n 3, 1) ∧ decode cX12_otherKind 53 = .ok (.istore_n 2, 1) ∧ decode cX12_otherKind 54 = .ok (.iinc 3 1, 3) ∧ decode cX12_otherKind 57 = .ok (.goto (-53), 3) ∧ decode cX12_otherKind 60 = .ok (.iload_n 2, 1) ∧ decode cX12_otherKind 61 = .ok (.ireturn, 1) ∧ True := dkl_ok (c := cX12_otherKind) [(.iload_n 3, 1), (.istore_n 2, 1), (.iinc 3 1, 3), (.goto (-53), 3), (.iload_n 2, 1), (.ireturn, 1)] 52 (by decide +kernel)
theorem dX12_otherKind_52 : decode cX12_otherKind 52 = .ok (.iload_n 3, 1) := eX12_otherKind_52.1
theorem dX12_otherKind_53 : decode cX12_otherKind 53 = .ok (.istore_n 2, 1) := eX12_otherKind_52.2.1
theorem dX12_otherKind_54 : decode cX12_otherKind 54 = .ok (.iinc 3 1, 3) := eX12_otherKind_52.2.2.1
theorem dX12_otherKind_57 : decode cX12_otherKind 57 = .ok (.goto (-53), 3) := eX12_otherKind_52.2.2.2.1
theorem dX12_otherKind_60 : decode cX12_otherKind 60 = .ok (.iload_n 2, 1) := eX12_otherKind_52.2.2.2.2.1
theorem dX12_otherKind_61 : decode cX12_otherKind 61 = .ok (.ireturn, 1) := eX12_otherKind_52.2.2.2.2.2.1
theorem eX12_turns_0 : decode cX12_turns 0 = .ok (.aload_n 0, 1) ∧ decode cX12_turns 1 = .ok (.getfield 35, 3) ∧ decode cX12_turns 4 = .ok (.bipush 7, 2) ∧ decode cX12_turns 6 = .ok (.iaload, 1) ∧ decode cX12_turns 7 = .ok (.iconst 1, 1) ∧ decode cX12_turns 8 = .ok (.if_icmp .ne 7, 3) ∧ decode cX12_turns 11 = .ok (.aload_n 0, 1) ∧ decode cX12_turns 12 = .ok (.invokevirtual 322, 3) ∧ True := dkl_ok (c := cX12_turns) [(.aload_n 0, 1), (.getfield 35, 3), (.bipush 7, 2), (.iaload, 1), (.iconst 1, 1), (.if_icmp .ne 7, 3), (.aload_n 0, 1), (.invokevirtual 322, 3)] 0 (by decide +kernel)
theorem dX12_turns_0 : decode cX12_turns 0 = .ok (.aload_n 0, 1) := eX12_turns_0.1
theorem dX12_turns_1 : decode cX12_turns 1 = .ok (.getfield 35, 3) := eX12_turns_0.2.1
theorem dX12_turns_4 : decode cX12_turns 4 = .ok (.bipush 7, 2) := eX12_turns_0.2.2.1
theorem dX12_turns_6 : decode cX12_turns 6 = .ok (.iaload, 1) := eX12_turns_0.2.2.2.1
theorem dX12_turns_7 : decode cX12_turns 7 = .ok (.iconst 1, 1) := eX12_turns_0.2.2.2.2.1
theorem dX12_turns_8 : decode cX12_turns 8 = .ok (.if_icmp .ne 7, 3) := eX12_turns_0.2.2.2.2.2.1
theorem dX12_turns_11 : decode cX12_turns 11 = .ok (.aload_n 0, 1) := eX12_turns_0.2.2.2.2.2.2.1
theorem dX12_turns_12 : decode cX12_turns 12 = .ok (.invokevirtual 322, 3) := eX12_turns_0.2.2.2.2.2.2.2.1
theorem eX12_turns_15 : decode cX12_turns 15 = .ok (.aload_n 0, 1) ∧ decode cX12_turns 16 = .ok (.getfield 35, 3) ∧ decode cX12_turns 19 = .ok (.bipush 8, 2) ∧ decode cX12_turns 21 = .ok (.iaload, 1) ∧ decode cX12_turns 22 = .ok (.ifCond .ge 27, 3) ∧ decode cX12_turns 25 = .ok (.aload_n 0, 1) ∧ decode cX12_turns 26 = .ok (.getfield 35, 3) ∧ decode cX12_turns 29 = .ok (.iconst 2, 1) ∧ True := dkl_ok (c := cX12_turns) [(.aload_n 0, 1), (.getfield 35, 3), (.bipush 8, 2), (.iaload, 1), (.ifCond .ge 27, 3), (.aload_n 0, 1), (.getfield 35, 3), (.iconst 2, 1)] 15 (by decide +kernel)
theorem dX12_turns_15 : decode cX12_turns 15 = .ok (.aload_n 0, 1) := eX12_turns_15.1
theorem dX12_turns_16 : decode cX12_turns 16 = .ok (.getfield 35, 3) := eX12_turns_15.2.1
theorem dX12_turns_19 : decode cX12_turns 19 = .ok (.bipush 8, 2) := eX12_turns_15.2.2.1
theorem dX12_turns_21 : decode cX12_turns 21 = .ok (.iaload, 1) := eX12_turns_15.2.2.2.1
theorem dX12_turns_22 : decode cX12_turns 22 = .ok (.ifCond .ge 27, 3) := eX12_turns_15.2.2.2.2.1
theorem dX12_turns_25 : decode cX12_turns 25 = .ok (.aload_n 0, 1) := eX12_turns_15.2.2.2.2.2.1
theorem dX12_turns_26 : decode cX12_turns 26 = .ok (.getfield 35, 3) := eX12_turns_15.2.2.2.2.2.2.1
theorem dX12_turns_29 : decode cX12_turns 29 = .ok (.iconst 2, 1) := eX12_turns_15.2.2.2.2.2.2.2.1
theorem eX12_turns_30 : decode cX12_turns 30 = .ok (.iaload, 1) ∧ decode cX12_turns 31 = .ok (.iconst 2, 1) ∧ decode cX12_turns 32 = .ok (.if_icmp .lt 17, 3) ∧ decode cX12_turns 35 = .ok (.aload_n 0, 1) ∧ decode cX12_turns 36 = .ok (.aload_n 0, 1) ∧ decode cX12_turns 37 = .ok (.getfield 35, 3) ∧ decode cX12_turns 40 = .ok (.bipush 6, 2) ∧ decode cX12_turns 42 = .ok (.iaload, 1) ∧ True := dkl_ok (c := cX12_turns) [(.iaload, 1), (.iconst 2, 1), (.if_icmp .lt 17, 3), (.aload_n 0, 1), (.aload_n 0, 1), (.getfield 35, 3), (.bipush 6, 2), (.iaload, 1)] 30 (by decide +kernel)
theorem dX12_turns_30 : decode cX12_turns 30 = .ok (.iaload, 1) := eX12_turns_30.1
theorem dX12_turns_31 : decode cX12_turns 31 = .ok (.iconst 2, 1) := eX12_turns_30.2.1
theorem dX12_turns_32 : decode cX12_turns 32 = .ok (.if_icmp .lt 17, 3) := eX12_turns_30.2.2.1
theorem dX12_turns_35 : decode cX12_turns 35 = .ok (.aload_n 0, 1) := eX12_turns_30.2.2.2.1
theorem dX12_turns_36 : decode cX12_turns 36 = .ok (.aload_n 0, 1) := eX12_turns_30.2.2.2.2.1
theorem dX12_turns_37 : decode cX12_turns 37 = .ok (.getfield 35, 3) := eX12_turns_30.2.2.2.2.2.1
theorem dX12_turns_40 : decode cX12_turns 40 = .ok (.bipush 6, 2) := eX12_turns_30.2.2.2.2.2.2.1
theorem dX12_turns_42 : decode cX12_turns 42 = .ok (.iaload, 1) := eX12_turns_30.2.2.2.2.2.2.2.1
theorem eX12_turns_43 : decode cX12_turns 43 = .ok (.invokevirtual 293, 3) ∧ decode cX12_turns 46 = .ok (.ifCond .ne 5, 3) ∧ decode cX12_turns 49 = .ok (.iconst 0, 1) ∧ decode cX12_turns 50 = .ok (.ireturn, 1) ∧ decode cX12_turns 51 = .ok (.aload_n 0, 1) ∧ decode cX12_turns 52 = .ok (.getfield 35, 3) ∧ decode cX12_turns 55 = .ok (.bipush 6, 2) ∧ decode cX12_turns 57 = .ok (.iaload, 1) ∧ True := dkl_ok (c := cX12_turns) [(.invokevirtual 293, 3), (.ifCond .ne 5, 3), (.iconst 0, 1), (.ireturn, 1), (.aload_n 0, 1), (.getfield 35, 3), (.bipush 6, 2), (.iaload, 1)] 43 (by decide +kernel)
theorem dX12_turns_43 : decode cX12_turns 43 = .ok (.invokevirtual 293, 3) := eX12_turns_43.1
theorem dX12_turns_46 : decode cX12_turns 46 = .ok (.ifCond .ne 5, 3) := eX12_turns_43.2.1
theorem dX12_turns_49 : decode cX12_turns 49 = .ok (.iconst 0, 1) := eX12_turns_43.2.2.1
theorem dX12_turns_50 : decode cX12_turns 50 = .ok (.ireturn, 1) := eX12_turns_43.2.2.2.1
theorem dX12_turns_51 : decode cX12_turns 51 = .ok (.aload_n 0, 1) := eX12_turns_43.2.2.2.2.1
theorem dX12_turns_52 : decode cX12_turns 52 = .ok (.getfield 35, 3) := eX12_turns_43.2.2.2.2.2.1
theorem dX12_turns_55 : decode cX12_turns 55 = .ok (.bipush 6, 2) := eX12_turns_43.2.2.2.2.2.2.1
theorem dX12_turns_57 : decode cX12_turns 57 = .ok (.iaload, 1) := eX12_turns_43.2.2.2.2.2.2.2.1
theorem eX12_turns_58 : decode cX12_turns 58 = .ok (.istore_n 1, 1) ∧ decode cX12_turns 59 = .ok (.iconst 0, 1) ∧ decode cX12_turns 60 = .ok (.istore_n 2, 1) ∧ decode cX12_turns 61 = .ok (.iload_n 2, 1) ∧ decode cX12_turns 62 = .ok (.bipush 10, 2) ∧ decode cX12_turns 64 = .ok (.if_icmp .ge 16, 3) ∧ decode cX12_turns 67 = .ok (.aload_n 0, 1) ∧ decode cX12_turns 68 = .ok (.getfield 47, 3) ∧ True := dkl_ok (c := cX12_turns) [(.istore_n 1, 1), (.iconst 0, 1), (.istore_n 2, 1), (.iload_n 2, 1), (.bipush 10, 2), (.if_icmp .ge 16, 3), (.aload_n 0, 1), (.getfield 47, 3)] 58 (by decide +kernel)
theorem dX12_turns_58 : decode cX12_turns 58 = .ok (.istore_n 1, 1) := eX12_turns_58.1
theorem dX12_turns_59 : decode cX12_turns 59 = .ok (.iconst 0, 1) := eX12_turns_58.2.1
theorem dX12_turns_60 : decode cX12_turns 60 = .ok (.istore_n 2, 1) := eX12_turns_58.2.2.1
theorem dX12_turns_61 : decode cX12_turns 61 = .ok (.iload_n 2, 1) := eX12_turns_58.2.2.2.1
theorem dX12_turns_62 : decode cX12_turns 62 = .ok (.bipush 10, 2) := eX12_turns_58.2.2.2.2.1
theorem dX12_turns_64 : decode cX12_turns 64 = .ok (.if_icmp .ge 16, 3) := eX12_turns_58.2.2.2.2.2.1
theorem dX12_turns_67 : decode cX12_turns 67 = .ok (.aload_n 0, 1) := eX12_turns_58.2.2.2.2.2.2.1
theorem dX12_turns_68 : decode cX12_turns 68 = .ok (.getfield 47, 3) := eX12_turns_58.2.2.2.2.2.2.2.1
theorem eX12_turns_71 : decode cX12_turns 71 = .ok (.iload_n 2, 1) ∧ decode cX12_turns 72 = .ok (.iconst 0, 1) ∧ decode cX12_turns 73 = .ok (.iastore, 1) ∧ decode cX12_turns 74 = .ok (.iinc 2 1, 3) ∧ decode cX12_turns 77 = .ok (.goto (-16), 3) ∧ decode cX12_turns 80 = .ok (.aload_n 0, 1) ∧ decode cX12_turns 81 = .ok (.getfield 35, 3) ∧ decode cX12_turns 84 = .ok (.iconst 4, 1) ∧ True := dkl_ok (c := cX12_turns) [(.iload_n 2, 1), (.iconst 0, 1), (.iastore, 1), (.iinc 2 1, 3), (.goto (-16), 3), (.aload_n 0, 1), (.getfield 35, 3), (.iconst 4, 1)] 71 (by decide +kernel)
theorem dX12_turns_71 : decode cX12_turns 71 = .ok (.iload_n 2, 1) := eX12_turns_71.1
theorem dX12_turns_72 : decode cX12_turns 72 = .ok (.iconst 0, 1) := eX12_turns_71.2.1
theorem dX12_turns_73 : decode cX12_turns 73 = .ok (.iastore, 1) := eX12_turns_71.2.2.1
theorem dX12_turns_74 : decode cX12_turns 74 = .ok (.iinc 2 1, 3) := eX12_turns_71.2.2.2.1
theorem dX12_turns_77 : decode cX12_turns 77 = .ok (.goto (-16), 3) := eX12_turns_71.2.2.2.2.1
theorem dX12_turns_80 : decode cX12_turns 80 = .ok (.aload_n 0, 1) := eX12_turns_71.2.2.2.2.2.1
theorem dX12_turns_81 : decode cX12_turns 81 = .ok (.getfield 35, 3) := eX12_turns_71.2.2.2.2.2.2.1
theorem dX12_turns_84 : decode cX12_turns 84 = .ok (.iconst 4, 1) := eX12_turns_71.2.2.2.2.2.2.2.1
theorem eX12_turns_85 : decode cX12_turns 85 = .ok (.iaload, 1) ∧ decode cX12_turns 86 = .ok (.aload_n 0, 1) ∧ decode cX12_turns 87 = .ok (.iload_n 1, 1) ∧ decode cX12_turns 88 = .ok (.aload_n 0, 1) ∧ decode cX12_turns 89 = .ok (.getfield 35, 3) ∧ decode cX12_turns 92 = .ok (.iconst 5, 1) ∧ decode cX12_turns 93 = .ok (.iaload, 1) ∧ decode cX12_turns 94 = .ok (.invokevirtual 276, 3) ∧ True := dkl_ok (c := cX12_turns) [(.iaload, 1), (.aload_n 0, 1), (.iload_n 1, 1), (.aload_n 0, 1), (.getfield 35, 3), (.iconst 5, 1), (.iaload, 1), (.invokevirtual 276, 3)] 85 (by decide +kernel)
theorem dX12_turns_85 : decode cX12_turns 85 = .ok (.iaload, 1) := eX12_turns_85.1
theorem dX12_turns_86 : decode cX12_turns 86 = .ok (.aload_n 0, 1) := eX12_turns_85.2.1
theorem dX12_turns_87 : decode cX12_turns 87 = .ok (.iload_n 1, 1) := eX12_turns_85.2.2.1
theorem dX12_turns_88 : decode cX12_turns 88 = .ok (.aload_n 0, 1) := eX12_turns_85.2.2.2.1
theorem dX12_turns_89 : decode cX12_turns 89 = .ok (.getfield 35, 3) := eX12_turns_85.2.2.2.2.1
theorem dX12_turns_92 : decode cX12_turns 92 = .ok (.iconst 5, 1) := eX12_turns_85.2.2.2.2.2.1
theorem dX12_turns_93 : decode cX12_turns 93 = .ok (.iaload, 1) := eX12_turns_85.2.2.2.2.2.2.1
theorem dX12_turns_94 : decode cX12_turns 94 = .ok (.invokevirtual 276, 3) := eX12_turns_85.2.2.2.2.2.2.2.1
theorem eX12_turns_97 : decode cX12_turns 97 = .ok (.invokestatic 384, 3) ∧ decode cX12_turns 100 = .ok (.istore_n 2, 1) ∧ decode cX12_turns 101 = .ok (.aload_n 0, 1) ∧ decode cX12_turns 102 = .ok (.getfield 47, 3) ∧ decode cX12_turns 105 = .ok (.aload_n 0, 1) ∧ decode cX12_turns 106 = .ok (.getfield 35, 3) ∧ decode cX12_turns 109 = .ok (.iconst 5, 1) ∧ decode cX12_turns 110 = .ok (.iaload, 1) ∧ True := dkl_ok (c := cX12_turns) [(.invokestatic 384, 3), (.istore_n 2, 1), (.aload_n 0, 1), (.getfield 47, 3), (.aload_n 0, 1), (.getfield 35, 3), (.iconst 5, 1), (.iaload, 1)] 97 (by decide +kernel)
theorem dX12_turns_97 : decode cX12_turns 97 = .ok (.invokestatic 384, 3) := eX12_turns_97.1
theorem dX12_turns_100 : decode cX12_turns 100 = .ok (.istore_n 2, 1) := eX12_turns_97.2.1
theorem dX12_turns_101 : decode cX12_turns 101 = .ok (.aload_n 0, 1) := eX12_turns_97.2.2.1
theorem dX12_turns_102 : decode cX12_turns 102 = .ok (.getfield 47, 3) := eX12_turns_97.2.2.2.1
theorem dX12_turns_105 : decode cX12_turns 105 = .ok (.aload_n 0, 1) := eX12_turns_97.2.2.2.2.1
theorem dX12_turns_106 : decode cX12_turns 106 = .ok (.getfield 35, 3) := eX12_turns_97.2.2.2.2.2.1
theorem dX12_turns_109 : decode cX12_turns 109 = .ok (.iconst 5, 1) := eX12_turns_97.2.2.2.2.2.2.1
theorem dX12_turns_110 : decode cX12_turns 110 = .ok (.iaload, 1) := eX12_turns_97.2.2.2.2.2.2.2.1
theorem eX12_turns_111 : decode cX12_turns 111 = .ok (.iload_n 2, 1) ∧ decode cX12_turns 112 = .ok (.iastore, 1) ∧ decode cX12_turns 113 = .ok (.aload_n 0, 1) ∧ decode cX12_turns 114 = .ok (.iload_n 1, 1) ∧ decode cX12_turns 115 = .ok (.invokevirtual 399, 3) ∧ decode cX12_turns 118 = .ok (.istore_n 3, 1) ∧ decode cX12_turns 119 = .ok (.iload_n 2, 1) ∧ decode cX12_turns 120 = .ok (.aload_n 0, 1) ∧ True := dkl_ok (c := cX12_turns) [(.iload_n 2, 1), (.iastore, 1), (.aload_n 0, 1), (.iload_n 1, 1), (.invokevirtual 399, 3), (.istore_n 3, 1), (.iload_n 2, 1), (.aload_n 0, 1)] 111 (by decide +kernel)
theorem dX12_turns_111 : decode cX12_turns 111 = .ok (.iload_n 2, 1) := eX12_turns_111.1
theorem dX12_turns_112 : decode cX12_turns 112 = .ok (.iastore, 1) := eX12_turns_111.2.1
theorem dX12_turns_113 : decode cX12_turns 113 = .ok (.aload_n 0, 1) := eX12_turns_111.2.2.1
theorem dX12_turns_114 : decode cX12_turns 114 = .ok (.iload_n 1, 1) := eX12_turns_111.2.2.2.1
theorem dX12_turns_115 : decode cX12_turns 115 = .ok (.invokevirtual 399, 3) := eX12_turns_111.2.2.2.2.1
theorem dX12_turns_118 : decode cX12_turns 118 = .ok (.istore_n 3, 1) := eX12_turns_111.2.2.2.2.2.1
theorem dX12_turns_119 : decode cX12_turns 119 = .ok (.iload_n 2, 1) := eX12_turns_111.2.2.2.2.2.2.1
theorem dX12_turns_120 : decode cX12_turns 120 = .ok (.aload_n 0, 1) := eX12_turns_111.2.2.2.2.2.2.2.1
theorem eX12_turns_121 : decode cX12_turns 121 = .ok (.getfield 35, 3) ∧ decode cX12_turns 124 = .ok (.iconst 4, 1) ∧ decode cX12_turns 125 = .ok (.iaload, 1) ∧ decode cX12_turns 126 = .ok (.if_icmp .ge 37, 3) ∧ decode cX12_turns 129 = .ok (.iload_n 3, 1) ∧ decode cX12_turns 130 = .ok (.ifCond .lt 33, 3) ∧ decode cX12_turns 133 = .ok (.iload_n 2, 1) ∧ decode cX12_turns 134 = .ok (.ifCond .eq 19, 3) ∧ True := dkl_ok (c := cX12_turns) [(.getfield 35, 3), (.iconst 4, 1), (.iaload, 1), (.if_icmp .ge 37, 3), (.iload_n 3, 1), (.ifCond .lt 33, 3), (.iload_n 2, 1), (.ifCond .eq 19, 3)] 121 (by decide +kernel)
theorem dX12_turns_121 : decode cX12_turns 121 = .ok (.getfield 35, 3) := eX12_turns_121.1
theorem dX12_turns_124 : decode cX12_turns 124 = .ok (.iconst 4, 1) := eX12_turns_121.2.1
theorem dX12_turns_125 : decode cX12_turns 125 = .ok (.iaload, 1) := eX12_turns_121.2.2.1
theorem dX12_turns_126 : decode cX12_turns 126 = .ok (.if_icmp .ge 37, 3) := eX12_turns_121.2.2.2.1
theorem dX12_turns_129 : decode cX12_turns 129 = .ok (.iload_n 3, 1) := eX12_turns_121.2.2.2.2.1
theorem dX12_turns_130 : decode cX12_turns 130 = .ok (.ifCond .lt 33, 3) := eX12_turns_121.2.2.2.2.2.1
theorem dX12_turns_133 : decode cX12_turns 133 = .ok (.iload_n 2, 1) := eX12_turns_121.2.2.2.2.2.2.1
theorem dX12_turns_134 : decode cX12_turns 134 = .ok (.ifCond .eq 19, 3) := eX12_turns_121.2.2.2.2.2.2.2.1
theorem eX12_turns_137 : decode cX12_turns 137 = .ok (.aload_n 0, 1) ∧ decode cX12_turns 138 = .ok (.invokevirtual 402, 3) ∧ decode cX12_turns 141 = .ok (.aload_n 0, 1) ∧ decode cX12_turns 142 = .ok (.getfield 35, 3) ∧ decode cX12_turns 145 = .ok (.bipush 10, 2) ∧ decode cX12_turns 147 = .ok (.iload_n 1, 1) ∧ decode cX12_turns 148 = .ok (.iadd, 1) ∧ decode cX12_turns 149 = .ok (.iaload, 1) ∧ True := dkl_ok (c := cX12_turns) [(.aload_n 0, 1), (.invokevirtual 402, 3), (.aload_n 0, 1), (.getfield 35, 3), (.bipush 10, 2), (.iload_n 1, 1), (.iadd, 1), (.iaload, 1)] 137 (by decide +kernel)
theorem dX12_turns_137 : decode cX12_turns 137 = .ok (.aload_n 0, 1) := eX12_turns_137.1
theorem dX12_turns_138 : decode cX12_turns 138 = .ok (.invokevirtual 402, 3) := eX12_turns_137.2.1
theorem dX12_turns_141 : decode cX12_turns 141 = .ok (.aload_n 0, 1) := eX12_turns_137.2.2.1
theorem dX12_turns_142 : decode cX12_turns 142 = .ok (.getfield 35, 3) := eX12_turns_137.2.2.2.1
theorem dX12_turns_145 : decode cX12_turns 145 = .ok (.bipush 10, 2) := eX12_turns_137.2.2.2.2.1
theorem dX12_turns_147 : decode cX12_turns 147 = .ok (.iload_n 1, 1) := eX12_turns_137.2.2.2.2.2.1
theorem dX12_turns_148 : decode cX12_turns 148 = .ok (.iadd, 1) := eX12_turns_137.2.2.2.2.2.2.1
theorem dX12_turns_149 : decode cX12_turns 149 = .ok (.iaload, 1) := eX12_turns_137.2.2.2.2.2.2.2.1
theorem eX12_turns_150 : decode cX12_turns 150 = .ok (.if_icmp .ge 13, 3) ∧ decode cX12_turns 153 = .ok (.aload_n 0, 1) ∧ decode cX12_turns 154 = .ok (.getfield 47, 3) ∧ decode cX12_turns 157 = .ok (.iload_n 3, 1) ∧ decode cX12_turns 158 = .ok (.dup2, 1) ∧ decode cX12_turns 159 = .ok (.iaload, 1) ∧ decode cX12_turns 160 = .ok (.iconst 1, 1) ∧ decode cX12_turns 161 = .ok (.iadd, 1) ∧ True := dkl_ok (c := cX12_turns) [(.if_icmp .ge 13, 3), (.aload_n 0, 1), (.getfield 47, 3), (.iload_n 3, 1), (.dup2, 1), (.iaload, 1), (.iconst 1, 1), (.iadd, 1)] 150 (by decide +kernel)
theorem dX12_turns_150 : decode cX12_turns 150 = .ok (.if_icmp .ge 13, 3) := eX12_turns_150.1
theorem dX12_turns_153 : decode cX12_turns 153 = .ok (.aload_n 0, 1) := eX12_turns_150.2.1
theorem dX12_turns_154 : decode cX12_turns 154 = .ok (.getfield 47, 3) := eX12_turns_150.2.2.1
theorem dX12_turns_157 : decode cX12_turns 157 = .ok (.iload_n 3, 1) := eX12_turns_150.2.2.2.1
theorem dX12_turns_158 : decode cX12_turns 158 = .ok (.dup2, 1) := eX12_turns_150.2.2.2.2.1
theorem dX12_turns_159 : decode cX12_turns 159 = .ok (.iaload, 1) := eX12_turns_150.2.2.2.2.2.1
theorem dX12_turns_160 : decode cX12_turns 160 = .ok (.iconst 1, 1) := eX12_turns_150.2.2.2.2.2.2.1
theorem dX12_turns_161 : decode cX12_turns 161 = .ok (.iadd, 1) := eX12_turns_150.2.2.2.2.2.2.2.1
theorem eX12_turns_162 : decode cX12_turns 162 = .ok (.iastore, 1) ∧ decode cX12_turns 163 = .ok (.aload_n 0, 1) ∧ decode cX12_turns 164 = .ok (.iload_n 1, 1) ∧ decode cX12_turns 165 = .ok (.aload_n 0, 1) ∧ decode cX12_turns 166 = .ok (.getfield 47, 3) ∧ decode cX12_turns 169 = .ok (.invokevirtual 311, 3) ∧ decode cX12_turns 172 = .ok (.aload_n 0, 1) ∧ decode cX12_turns 173 = .ok (.dup, 1) ∧ True := dkl_ok (c := cX12_turns) [(.iastore, 1), (.aload_n 0, 1), (.iload_n 1, 1), (.aload_n 0, 1), (.getfield 47, 3), (.invokevirtual 311, 3), (.aload_n 0, 1), (.dup, 1)] 162 (by decide +kernel)
theorem dX12_turns_162 : decode cX12_turns 162 = .ok (.iastore, 1) := eX12_turns_162.1
theorem dX12_turns_163 : decode cX12_turns 163 = .ok (.aload_n 0, 1) := eX12_turns_162.2.1
theorem dX12_turns_164 : decode cX12_turns 164 = .ok (.iload_n 1, 1) := eX12_turns_162.2.2.1
theorem dX12_turns_165 : decode cX12_turns 165 = .ok (.aload_n 0, 1) := eX12_turns_162.2.2.2.1
theorem dX12_turns_166 : decode cX12_turns 166 = .ok (.getfield 47, 3) := eX12_turns_162.2.2.2.2.1
theorem dX12_turns_169 : decode cX12_turns 169 = .ok (.invokevirtual 311, 3) := eX12_turns_162.2.2.2.2.2.1
theorem dX12_turns_172 : decode cX12_turns 172 = .ok (.aload_n 0, 1) := eX12_turns_162.2.2.2.2.2.2.1
theorem dX12_turns_173 : decode cX12_turns 173 = .ok (.dup, 1) := eX12_turns_162.2.2.2.2.2.2.2.1
theorem eX12_turns_174 : decode cX12_turns 174 = .ok (.getfield 405, 3) ∧ decode cX12_turns 177 = .ok (.iconst 1, 1) ∧ decode cX12_turns 178 = .ok (.iadd, 1) ∧ decode cX12_turns 179 = .ok (.putfield 405, 3) ∧ decode cX12_turns 182 = .ok (.aload_n 0, 1) ∧ decode cX12_turns 183 = .ok (.iload_n 1, 1) ∧ decode cX12_turns 184 = .ok (.invokevirtual 319, 3) ∧ decode cX12_turns 187 = .ok (.istore 4, 2) ∧ True := dkl_ok (c := cX12_turns) [(.getfield 405, 3), (.iconst 1, 1), (.iadd, 1), (.putfield 405, 3), (.aload_n 0, 1), (.iload_n 1, 1), (.invokevirtual 319, 3), (.istore 4, 2)] 174 (by decide +kernel)
theorem dX12_turns_174 : decode cX12_turns 174 = .ok (.getfield 405, 3) := eX12_turns_174.1
theorem dX12_turns_177 : decode cX12_turns 177 = .ok (.iconst 1, 1) := eX12_turns_174.2.1
theorem dX12_turns_178 : decode cX12_turns 178 = .ok (.iadd, 1) := eX12_turns_174.2.2.1
theorem dX12_turns_179 : decode cX12_turns 179 = .ok (.putfield 405, 3) := eX12_turns_174.2.2.2.1
theorem dX12_turns_182 : decode cX12_turns 182 = .ok (.aload_n 0, 1) := eX12_turns_174.2.2.2.2.1
theorem dX12_turns_183 : decode cX12_turns 183 = .ok (.iload_n 1, 1) := eX12_turns_174.2.2.2.2.2.1
theorem dX12_turns_184 : decode cX12_turns 184 = .ok (.invokevirtual 319, 3) := eX12_turns_174.2.2.2.2.2.2.1
theorem dX12_turns_187 : decode cX12_turns 187 = .ok (.istore 4, 2) := eX12_turns_174.2.2.2.2.2.2.2.1
theorem eX12_turns_189 : decode cX12_turns 189 = .ok (.iload 4, 2) ∧ decode cX12_turns 191 = .ok (.iload_n 1, 1) ∧ decode cX12_turns 192 = .ok (.if_icmp .eq 79, 3) ∧ decode cX12_turns 195 = .ok (.aload_n 0, 1) ∧ decode cX12_turns 196 = .ok (.iload 4, 2) ∧ decode cX12_turns 198 = .ok (.invokevirtual 355, 3) ∧ decode cX12_turns 201 = .ok (.ifCond .ne 23, 3) ∧ decode cX12_turns 204 = .ok (.aload_n 0, 1) ∧ True := dkl_ok (c := cX12_turns) [(.iload 4, 2), (.iload_n 1, 1), (.if_icmp .eq 79, 3), (.aload_n 0, 1), (.iload 4, 2), (.invokevirtual 355, 3), (.ifCond .ne 23, 3), (.aload_n 0, 1)] 189 (by decide +kernel)
theorem dX12_turns_189 : decode cX12_turns 189 = .ok (.iload 4, 2) := eX12_turns_189.1
theorem dX12_turns_191 : decode cX12_turns 191 = .ok (.iload_n 1, 1) := eX12_turns_189.2.1
theorem dX12_turns_192 : decode cX12_turns 192 = .ok (.if_icmp .eq 79, 3) := eX12_turns_189.2.2.1
theorem dX12_turns_195 : decode cX12_turns 195 = .ok (.aload_n 0, 1) := eX12_turns_189.2.2.2.1
theorem dX12_turns_196 : decode cX12_turns 196 = .ok (.iload 4, 2) := eX12_turns_189.2.2.2.2.1
theorem dX12_turns_198 : decode cX12_turns 198 = .ok (.invokevirtual 355, 3) := eX12_turns_189.2.2.2.2.2.1
theorem dX12_turns_201 : decode cX12_turns 201 = .ok (.ifCond .ne 23, 3) := eX12_turns_189.2.2.2.2.2.2.1
theorem dX12_turns_204 : decode cX12_turns 204 = .ok (.aload_n 0, 1) := eX12_turns_189.2.2.2.2.2.2.2.1
theorem eX12_turns_205 : decode cX12_turns 205 = .ok (.invokevirtual 402, 3) ∧ decode cX12_turns 208 = .ok (.aload_n 0, 1) ∧ decode cX12_turns 209 = .ok (.getfield 35, 3) ∧ decode cX12_turns 212 = .ok (.bipush 16, 2) ∧ decode cX12_turns 214 = .ok (.iload 4, 2) ∧ decode cX12_turns 216 = .ok (.iadd, 1) ∧ decode cX12_turns 217 = .ok (.iaload, 1) ∧ decode cX12_turns 218 = .ok (.if_icmp .lt 6, 3) ∧ True := dkl_ok (c := cX12_turns) [(.invokevirtual 402, 3), (.aload_n 0, 1), (.getfield 35, 3), (.bipush 16, 2), (.iload 4, 2), (.iadd, 1), (.iaload, 1), (.if_icmp .lt 6, 3)] 205 (by decide +kernel)
theorem dX12_turns_205 : decode cX12_turns 205 = .ok (.invokevirtual 402, 3) := eX12_turns_205.1
theorem dX12_turns_208 : decode cX12_turns 208 = .ok (.aload_n 0, 1) := eX12_turns_205.2.1
theorem dX12_turns_209 : decode cX12_turns 209 = .ok (.getfield 35, 3) := eX12_turns_205.2.2.1
theorem dX12_turns_212 : decode cX12_turns 212 = .ok (.bipush 16, 2) := eX12_turns_205.2.2.2.1
theorem dX12_turns_214 : decode cX12_turns 214 = .ok (.iload 4, 2) := eX12_turns_205.2.2.2.2.1
theorem dX12_turns_216 : decode cX12_turns 216 = .ok (.iadd, 1) := eX12_turns_205.2.2.2.2.2.1
theorem dX12_turns_217 : decode cX12_turns 217 = .ok (.iaload, 1) := eX12_turns_205.2.2.2.2.2.2.1
theorem dX12_turns_218 : decode cX12_turns 218 = .ok (.if_icmp .lt 6, 3) := eX12_turns_205.2.2.2.2.2.2.2.1
theorem eX12_turns_221 : decode cX12_turns 221 = .ok (.goto 39, 3) ∧ decode cX12_turns 224 = .ok (.aload_n 0, 1) ∧ decode cX12_turns 225 = .ok (.dup, 1) ∧ decode cX12_turns 226 = .ok (.getfield 408, 3) ∧ decode cX12_turns 229 = .ok (.iconst 1, 1) ∧ decode cX12_turns 230 = .ok (.iadd, 1) ∧ decode cX12_turns 231 = .ok (.putfield 408, 3) ∧ decode cX12_turns 234 = .ok (.aload_n 0, 1) ∧ True := dkl_ok (c := cX12_turns) [(.goto 39, 3), (.aload_n 0, 1), (.dup, 1), (.getfield 408, 3), (.iconst 1, 1), (.iadd, 1), (.putfield 408, 3), (.aload_n 0, 1)] 221 (by decide +kernel)
theorem dX12_turns_221 : decode cX12_turns 221 = .ok (.goto 39, 3) := eX12_turns_221.1
theorem dX12_turns_224 : decode cX12_turns 224 = .ok (.aload_n 0, 1) := eX12_turns_221.2.1
theorem dX12_turns_225 : decode cX12_turns 225 = .ok (.dup, 1) := eX12_turns_221.2.2.1
theorem dX12_turns_226 : decode cX12_turns 226 = .ok (.getfield 408, 3) := eX12_turns_221.2.2.2.1
theorem dX12_turns_229 : decode cX12_turns 229 = .ok (.iconst 1, 1) := eX12_turns_221.2.2.2.2.1
theorem dX12_turns_230 : decode cX12_turns 230 = .ok (.iadd, 1) := eX12_turns_221.2.2.2.2.2.1
theorem dX12_turns_231 : decode cX12_turns 231 = .ok (.putfield 408, 3) := eX12_turns_221.2.2.2.2.2.2.1
theorem dX12_turns_234 : decode cX12_turns 234 = .ok (.aload_n 0, 1) := eX12_turns_221.2.2.2.2.2.2.2.1
theorem eX12_turns_235 : decode cX12_turns 235 = .ok (.dup, 1) ∧ decode cX12_turns 236 = .ok (.getfield 411, 3) ∧ decode cX12_turns 239 = .ok (.aload_n 0, 1) ∧ decode cX12_turns 240 = .ok (.iload 4, 2) ∧ decode cX12_turns 242 = .ok (.invokevirtual 328, 3) ∧ decode cX12_turns 245 = .ok (.iload_n 1, 1) ∧ decode cX12_turns 246 = .ok (.if_icmp .ne 7, 3) ∧ decode cX12_turns 249 = .ok (.iconst 1, 1) ∧ True := dkl_ok (c := cX12_turns) [(.dup, 1), (.getfield 411, 3), (.aload_n 0, 1), (.iload 4, 2), (.invokevirtual 328, 3), (.iload_n 1, 1), (.if_icmp .ne 7, 3), (.iconst 1, 1)] 235 (by decide +kernel)
theorem dX12_turns_235 : decode cX12_turns 235 = .ok (.dup, 1) := eX12_turns_235.1
theorem dX12_turns_236 : decode cX12_turns 236 = .ok (.getfield 411, 3) := eX12_turns_235.2.1
theorem dX12_turns_239 : decode cX12_turns 239 = .ok (.aload_n 0, 1) := eX12_turns_235.2.2.1
theorem dX12_turns_240 : decode cX12_turns 240 = .ok (.iload 4, 2) := eX12_turns_235.2.2.2.1
theorem dX12_turns_242 : decode cX12_turns 242 = .ok (.invokevirtual 328, 3) := eX12_turns_235.2.2.2.2.1
theorem dX12_turns_245 : decode cX12_turns 245 = .ok (.iload_n 1, 1) := eX12_turns_235.2.2.2.2.2.1
theorem dX12_turns_246 : decode cX12_turns 246 = .ok (.if_icmp .ne 7, 3) := eX12_turns_235.2.2.2.2.2.2.1
theorem dX12_turns_249 : decode cX12_turns 249 = .ok (.iconst 1, 1) := eX12_turns_235.2.2.2.2.2.2.2.1
theorem eX12_turns_250 : decode cX12_turns 250 = .ok (.goto 4, 3) ∧ decode cX12_turns 253 = .ok (.iconst 0, 1) ∧ decode cX12_turns 254 = .ok (.iadd, 1) ∧ decode cX12_turns 255 = .ok (.putfield 411, 3) ∧ decode cX12_turns 258 = .ok (.iconst 1, 1) ∧ decode cX12_turns 259 = .ok (.ireturn, 1) ∧ decode cX12_turns 260 = .ok (.aload_n 0, 1) ∧ decode cX12_turns 261 = .ok (.iload 4, 2) ∧ True := dkl_ok (c := cX12_turns) [(.goto 4, 3), (.iconst 0, 1), (.iadd, 1), (.putfield 411, 3), (.iconst 1, 1), (.ireturn, 1), (.aload_n 0, 1), (.iload 4, 2)] 250 (by decide +kernel)
theorem dX12_turns_250 : decode cX12_turns 250 = .ok (.goto 4, 3) := eX12_turns_250.1
theorem dX12_turns_253 : decode cX12_turns 253 = .ok (.iconst 0, 1) := eX12_turns_250.2.1
theorem dX12_turns_254 : decode cX12_turns 254 = .ok (.iadd, 1) := eX12_turns_250.2.2.1
theorem dX12_turns_255 : decode cX12_turns 255 = .ok (.putfield 411, 3) := eX12_turns_250.2.2.2.1
theorem dX12_turns_258 : decode cX12_turns 258 = .ok (.iconst 1, 1) := eX12_turns_250.2.2.2.2.1
theorem dX12_turns_259 : decode cX12_turns 259 = .ok (.ireturn, 1) := eX12_turns_250.2.2.2.2.2.1
theorem dX12_turns_260 : decode cX12_turns 260 = .ok (.aload_n 0, 1) := eX12_turns_250.2.2.2.2.2.2.1
theorem dX12_turns_261 : decode cX12_turns 261 = .ok (.iload 4, 2) := eX12_turns_250.2.2.2.2.2.2.2.1
theorem eX12_turns_263 : decode cX12_turns 263 = .ok (.invokevirtual 319, 3) ∧ decode cX12_turns 266 = .ok (.istore 4, 2) ∧ decode cX12_turns 268 = .ok (.goto (-79), 3) ∧ decode cX12_turns 271 = .ok (.aload_n 0, 1) ∧ decode cX12_turns 272 = .ok (.invokevirtual 322, 3) ∧ decode cX12_turns 275 = .ok (.iconst 1, 1) ∧ decode cX12_turns 276 = .ok (.ireturn, 1) ∧ True := dkl_ok (c := cX12_turns) [(.invokevirtual 319, 3), (.istore 4, 2), (.goto (-79), 3), (.aload_n 0, 1), (.invokevirtual 322, 3), (.iconst 1, 1), (.ireturn, 1)] 263 (by decide +kernel)
theorem dX12_turns_263 : decode cX12_turns 263 = .ok (.invokevirtual 319, 3) := eX12_turns_263.1
theorem dX12_turns_266 : decode cX12_turns 266 = .ok (.istore 4, 2) := eX12_turns_263.2.1
theorem dX12_turns_268 : decode cX12_turns 268 = .ok (.goto (-79), 3) := eX12_turns_263.2.2.1
theorem dX12_turns_271 : decode cX12_turns 271 = .ok (.aload_n 0, 1) := eX12_turns_263.2.2.2.1
theorem dX12_turns_272 : decode cX12_turns 272 = .ok (.invokevirtual 322, 3) := eX12_turns_263.2.2.2.2.1
theorem dX12_turns_275 : decode cX12_turns 275 = .ok (.iconst 1, 1) := eX12_turns_263.2.2.2.2.2.1
theorem dX12_turns_276 : decode cX12_turns 276 = .ok (.ireturn, 1) := eX12_turns_263.2.2.2.2.2.2.1
theorem eX12_does_0 : decode cX12_does 0 = .ok (.aload_n 0, 1) ∧ decode cX12_does 1 = .ok (.getfield 35, 3) ∧ decode cX12_does 4 = .ok (.iload_n 1, 1) ∧ decode cX12_does 5 = .ok (.iaload, 1) ∧ decode cX12_does 6 = .ok (.istore_n 2, 1) ∧ decode cX12_does 7 = .ok (.iload_n 2, 1) ∧ decode cX12_does 8 = .ok (.ifCond .ne 8, 3) ∧ decode cX12_does 11 = .ok (.aload_n 0, 1) ∧ True := dkl_ok (c := cX12_does) [(.aload_n 0, 1), (.getfield 35, 3), (.iload_n 1, 1), (.iaload, 1), (.istore_n 2, 1), (.iload_n 2, 1), (.ifCond .ne 8, 3), (.aload_n 0, 1)] 0 (by decide +kernel)
theorem dX12_does_0 : decode cX12_does 0 = .ok (.aload_n 0, 1) := eX12_does_0.1
theorem dX12_does_1 : decode cX12_does 1 = .ok (.getfield 35, 3) := eX12_does_0.2.1
theorem dX12_does_4 : decode cX12_does 4 = .ok (.iload_n 1, 1) := eX12_does_0.2.2.1
theorem dX12_does_5 : decode cX12_does 5 = .ok (.iaload, 1) := eX12_does_0.2.2.2.1
theorem dX12_does_6 : decode cX12_does 6 = .ok (.istore_n 2, 1) := eX12_does_0.2.2.2.2.1
theorem dX12_does_7 : decode cX12_does 7 = .ok (.iload_n 2, 1) := eX12_does_0.2.2.2.2.2.1
theorem dX12_does_8 : decode cX12_does 8 = .ok (.ifCond .ne 8, 3) := eX12_does_0.2.2.2.2.2.2.1
theorem dX12_does_11 : decode cX12_does 11 = .ok (.aload_n 0, 1) := eX12_does_0.2.2.2.2.2.2.2.1
theorem eX12_does_12 : decode cX12_does 12 = .ok (.invokevirtual 414, 3) ∧ decode cX12_does 15 = .ok (.ireturn, 1) ∧ decode cX12_does 16 = .ok (.aload_n 0, 1) ∧ decode cX12_does 17 = .ok (.getfield 35, 3) ∧ decode cX12_does 20 = .ok (.iload_n 2, 1) ∧ decode cX12_does 21 = .ok (.iconst 1, 1) ∧ decode cX12_does 22 = .ok (.if_icmp .ne 8, 3) ∧ decode cX12_does 25 = .ok (.bipush 10, 2) ∧ True := dkl_ok (c := cX12_does) [(.invokevirtual 414, 3), (.ireturn, 1), (.aload_n 0, 1), (.getfield 35, 3), (.iload_n 2, 1), (.iconst 1, 1), (.if_icmp .ne 8, 3), (.bipush 10, 2)] 12 (by decide +kernel)
theorem dX12_does_12 : decode cX12_does 12 = .ok (.invokevirtual 414, 3) := eX12_does_12.1
theorem dX12_does_15 : decode cX12_does 15 = .ok (.ireturn, 1) := eX12_does_12.2.1
theorem dX12_does_16 : decode cX12_does 16 = .ok (.aload_n 0, 1) := eX12_does_12.2.2.1
theorem dX12_does_17 : decode cX12_does 17 = .ok (.getfield 35, 3) := eX12_does_12.2.2.2.1
theorem dX12_does_20 : decode cX12_does 20 = .ok (.iload_n 2, 1) := eX12_does_12.2.2.2.2.1
theorem dX12_does_21 : decode cX12_does 21 = .ok (.iconst 1, 1) := eX12_does_12.2.2.2.2.2.1
theorem dX12_does_22 : decode cX12_does 22 = .ok (.if_icmp .ne 8, 3) := eX12_does_12.2.2.2.2.2.2.1
theorem dX12_does_25 : decode cX12_does 25 = .ok (.bipush 10, 2) := eX12_does_12.2.2.2.2.2.2.2.1
theorem eX12_does_27 : decode cX12_does 27 = .ok (.goto 5, 3) ∧ decode cX12_does 30 = .ok (.bipush 16, 2) ∧ decode cX12_does 32 = .ok (.aload_n 0, 1) ∧ decode cX12_does 33 = .ok (.getfield 35, 3) ∧ decode cX12_does 36 = .ok (.iload_n 1, 1) ∧ decode cX12_does 37 = .ok (.iconst 1, 1) ∧ decode cX12_does 38 = .ok (.iadd, 1) ∧ decode cX12_does 39 = .ok (.iaload, 1) ∧ True := dkl_ok (c := cX12_does) [(.goto 5, 3), (.bipush 16, 2), (.aload_n 0, 1), (.getfield 35, 3), (.iload_n 1, 1), (.iconst 1, 1), (.iadd, 1), (.iaload, 1)] 27 (by decide +kernel)
theorem dX12_does_27 : decode cX12_does 27 = .ok (.goto 5, 3) := eX12_does_27.1
theorem dX12_does_30 : decode cX12_does 30 = .ok (.bipush 16, 2) := eX12_does_27.2.1
theorem dX12_does_32 : decode cX12_does 32 = .ok (.aload_n 0, 1) := eX12_does_27.2.2.1
theorem dX12_does_33 : decode cX12_does 33 = .ok (.getfield 35, 3) := eX12_does_27.2.2.2.1
theorem dX12_does_36 : decode cX12_does 36 = .ok (.iload_n 1, 1) := eX12_does_27.2.2.2.2.1
theorem dX12_does_37 : decode cX12_does 37 = .ok (.iconst 1, 1) := eX12_does_27.2.2.2.2.2.1
theorem dX12_does_38 : decode cX12_does 38 = .ok (.iadd, 1) := eX12_does_27.2.2.2.2.2.2.1
theorem dX12_does_39 : decode cX12_does 39 = .ok (.iaload, 1) := eX12_does_27.2.2.2.2.2.2.2.1
theorem eX12_does_40 : decode cX12_does 40 = .ok (.iadd, 1) ∧ decode cX12_does 41 = .ok (.aload_n 0, 1) ∧ decode cX12_does 42 = .ok (.getfield 35, 3) ∧ decode cX12_does 45 = .ok (.iload_n 1, 1) ∧ decode cX12_does 46 = .ok (.iconst 2, 1) ∧ decode cX12_does 47 = .ok (.iadd, 1) ∧ decode cX12_does 48 = .ok (.iaload, 1) ∧ decode cX12_does 49 = .ok (.iastore, 1) ∧ True := dkl_ok (c := cX12_does) [(.iadd, 1), (.aload_n 0, 1), (.getfield 35, 3), (.iload_n 1, 1), (.iconst 2, 1), (.iadd, 1), (.iaload, 1), (.iastore, 1)] 40 (by decide +kernel)
theorem dX12_does_40 : decode cX12_does 40 = .ok (.iadd, 1) := eX12_does_40.1
theorem dX12_does_41 : decode cX12_does 41 = .ok (.aload_n 0, 1) := eX12_does_40.2.1
theorem dX12_does_42 : decode cX12_does 42 = .ok (.getfield 35, 3) := eX12_does_40.2.2.1
theorem dX12_does_45 : decode cX12_does 45 = .ok (.iload_n 1, 1) := eX12_does_40.2.2.2.1
theorem dX12_does_46 : decode cX12_does 46 = .ok (.iconst 2, 1) := eX12_does_40.2.2.2.2.1
theorem dX12_does_47 : decode cX12_does 47 = .ok (.iadd, 1) := eX12_does_40.2.2.2.2.2.1
theorem dX12_does_48 : decode cX12_does 48 = .ok (.iaload, 1) := eX12_does_40.2.2.2.2.2.2.1
theorem dX12_does_49 : decode cX12_does 49 = .ok (.iastore, 1) := eX12_does_40.2.2.2.2.2.2.2.1
theorem eX12_does_50 : decode cX12_does 50 = .ok (.iconst 1, 1) ∧ decode cX12_does 51 = .ok (.ireturn, 1) ∧ True := dkl_ok (c := cX12_does) [(.iconst 1, 1), (.ireturn, 1)] 50 (by decide +kernel)
theorem dX12_does_50 : decode cX12_does 50 = .ok (.iconst 1, 1) := eX12_does_50.1
theorem dX12_does_51 : decode cX12_does 51 = .ok (.ireturn, 1) := eX12_does_50.2.1
theorem eX12_isSo_0 : decode cX12_isSo 0 = .ok (.aload_n 0, 1) ∧ decode cX12_isSo 1 = .ok (.getfield 35, 3) ∧ decode cX12_isSo 4 = .ok (.iload_n 1, 1) ∧ decode cX12_isSo 5 = .ok (.bipush 6, 2) ∧ decode cX12_isSo 7 = .ok (.iadd, 1) ∧ decode cX12_isSo 8 = .ok (.iaload, 1) ∧ decode cX12_isSo 9 = .ok (.istore_n 2, 1) ∧ decode cX12_isSo 10 = .ok (.iload_n 2, 1) ∧ True := dkl_ok (c := cX12_isSo) [(.aload_n 0, 1), (.getfield 35, 3), (.iload_n 1, 1), (.bipush 6, 2), (.iadd, 1), (.iaload, 1), (.istore_n 2, 1), (.iload_n 2, 1)] 0 (by decide +kernel)
theorem dX12_isSo_0 : decode cX12_isSo 0 = .ok (.aload_n 0, 1) := eX12_isSo_0.1
theorem dX12_isSo_1 : decode cX12_isSo 1 = .ok (.getfield 35, 3) := eX12_isSo_0.2.1
theorem dX12_isSo_4 : decode cX12_isSo 4 = .ok (.iload_n 1, 1) := eX12_isSo_0.2.2.1
theorem dX12_isSo_5 : decode cX12_isSo 5 = .ok (.bipush 6, 2) := eX12_isSo_0.2.2.2.1
theorem dX12_isSo_7 : decode cX12_isSo 7 = .ok (.iadd, 1) := eX12_isSo_0.2.2.2.2.1
theorem dX12_isSo_8 : decode cX12_isSo 8 = .ok (.iaload, 1) := eX12_isSo_0.2.2.2.2.2.1
theorem dX12_isSo_9 : decode cX12_isSo 9 = .ok (.istore_n 2, 1) := eX12_isSo_0.2.2.2.2.2.2.1
theorem dX12_isSo_10 : decode cX12_isSo 10 = .ok (.iload_n 2, 1) := eX12_isSo_0.2.2.2.2.2.2.2.1
theorem eX12_isSo_11 : decode cX12_isSo 11 = .ok (.iconst 3, 1) ∧ decode cX12_isSo 12 = .ok (.if_icmp .ne 19, 3) ∧ decode cX12_isSo 15 = .ok (.aload_n 0, 1) ∧ decode cX12_isSo 16 = .ok (.getfield 35, 3) ∧ decode cX12_isSo 19 = .ok (.bipush 8, 2) ∧ decode cX12_isSo 21 = .ok (.iaload, 1) ∧ decode cX12_isSo 22 = .ok (.ifCond .lt 7, 3) ∧ decode cX12_isSo 25 = .ok (.iconst 1, 1) ∧ True := dkl_ok (c := cX12_isSo) [(.iconst 3, 1), (.if_icmp .ne 19, 3), (.aload_n 0, 1), (.getfield 35, 3), (.bipush 8, 2), (.iaload, 1), (.ifCond .lt 7, 3), (.iconst 1, 1)] 11 (by decide +kernel)
theorem dX12_isSo_11 : decode cX12_isSo 11 = .ok (.iconst 3, 1) := eX12_isSo_11.1
theorem dX12_isSo_12 : decode cX12_isSo 12 = .ok (.if_icmp .ne 19, 3) := eX12_isSo_11.2.1
theorem dX12_isSo_15 : decode cX12_isSo 15 = .ok (.aload_n 0, 1) := eX12_isSo_11.2.2.1
theorem dX12_isSo_16 : decode cX12_isSo 16 = .ok (.getfield 35, 3) := eX12_isSo_11.2.2.2.1
theorem dX12_isSo_19 : decode cX12_isSo 19 = .ok (.bipush 8, 2) := eX12_isSo_11.2.2.2.2.1
theorem dX12_isSo_21 : decode cX12_isSo 21 = .ok (.iaload, 1) := eX12_isSo_11.2.2.2.2.2.1
theorem dX12_isSo_22 : decode cX12_isSo 22 = .ok (.ifCond .lt 7, 3) := eX12_isSo_11.2.2.2.2.2.2.1
theorem dX12_isSo_25 : decode cX12_isSo 25 = .ok (.iconst 1, 1) := eX12_isSo_11.2.2.2.2.2.2.2.1
theorem eX12_isSo_26 : decode cX12_isSo 26 = .ok (.goto 4, 3) ∧ decode cX12_isSo 29 = .ok (.iconst 0, 1) ∧ decode cX12_isSo 30 = .ok (.ireturn, 1) ∧ decode cX12_isSo 31 = .ok (.iload_n 2, 1) ∧ decode cX12_isSo 32 = .ok (.ifCond .ne 18, 3) ∧ decode cX12_isSo 35 = .ok (.aload_n 0, 1) ∧ decode cX12_isSo 36 = .ok (.aload_n 0, 1) ∧ decode cX12_isSo 37 = .ok (.getfield 35, 3) ∧ True := dkl_ok (c := cX12_isSo) [(.goto 4, 3), (.iconst 0, 1), (.ireturn, 1), (.iload_n 2, 1), (.ifCond .ne 18, 3), (.aload_n 0, 1), (.aload_n 0, 1), (.getfield 35, 3)] 26 (by decide +kernel)
theorem dX12_isSo_26 : decode cX12_isSo 26 = .ok (.goto 4, 3) := eX12_isSo_26.1
theorem dX12_isSo_29 : decode cX12_isSo 29 = .ok (.iconst 0, 1) := eX12_isSo_26.2.1
theorem dX12_isSo_30 : decode cX12_isSo 30 = .ok (.ireturn, 1) := eX12_isSo_26.2.2.1
theorem dX12_isSo_31 : decode cX12_isSo 31 = .ok (.iload_n 2, 1) := eX12_isSo_26.2.2.2.1
theorem dX12_isSo_32 : decode cX12_isSo 32 = .ok (.ifCond .ne 18, 3) := eX12_isSo_26.2.2.2.2.1
theorem dX12_isSo_35 : decode cX12_isSo 35 = .ok (.aload_n 0, 1) := eX12_isSo_26.2.2.2.2.2.1
theorem dX12_isSo_36 : decode cX12_isSo 36 = .ok (.aload_n 0, 1) := eX12_isSo_26.2.2.2.2.2.2.1
theorem dX12_isSo_37 : decode cX12_isSo 37 = .ok (.getfield 35, 3) := eX12_isSo_26.2.2.2.2.2.2.2.1
theorem eX12_isSo_40 : decode cX12_isSo 40 = .ok (.iload_n 1, 1) ∧ decode cX12_isSo 41 = .ok (.iconst 1, 1) ∧ decode cX12_isSo 42 = .ok (.iadd, 1) ∧ decode cX12_isSo 43 = .ok (.iaload, 1) ∧ decode cX12_isSo 44 = .ok (.invokevirtual 293, 3) ∧ decode cX12_isSo 47 = .ok (.goto 31, 3) ∧ decode cX12_isSo 50 = .ok (.iload_n 2, 1) ∧ decode cX12_isSo 51 = .ok (.iconst 1, 1) ∧ True := dkl_ok (c := cX12_isSo) [(.iload_n 1, 1), (.iconst 1, 1), (.iadd, 1), (.iaload, 1), (.invokevirtual 293, 3), (.goto 31, 3), (.iload_n 2, 1), (.iconst 1, 1)] 40 (by decide +kernel)
theorem dX12_isSo_40 : decode cX12_isSo 40 = .ok (.iload_n 1, 1) := eX12_isSo_40.1
theorem dX12_isSo_41 : decode cX12_isSo 41 = .ok (.iconst 1, 1) := eX12_isSo_40.2.1
theorem dX12_isSo_42 : decode cX12_isSo 42 = .ok (.iadd, 1) := eX12_isSo_40.2.2.1
theorem dX12_isSo_43 : decode cX12_isSo 43 = .ok (.iaload, 1) := eX12_isSo_40.2.2.2.1
theorem dX12_isSo_44 : decode cX12_isSo 44 = .ok (.invokevirtual 293, 3) := eX12_isSo_40.2.2.2.2.1
theorem dX12_isSo_47 : decode cX12_isSo 47 = .ok (.goto 31, 3) := eX12_isSo_40.2.2.2.2.2.1
theorem dX12_isSo_50 : decode cX12_isSo 50 = .ok (.iload_n 2, 1) := eX12_isSo_40.2.2.2.2.2.2.1
theorem dX12_isSo_51 : decode cX12_isSo 51 = .ok (.iconst 1, 1) := eX12_isSo_40.2.2.2.2.2.2.2.1
theorem eX12_isSo_52 : decode cX12_isSo 52 = .ok (.if_icmp .ne 10, 3) ∧ decode cX12_isSo 55 = .ok (.aload_n 0, 1) ∧ decode cX12_isSo 56 = .ok (.invokevirtual 287, 3) ∧ decode cX12_isSo 59 = .ok (.goto 19, 3) ∧ decode cX12_isSo 62 = .ok (.aload_n 0, 1) ∧ decode cX12_isSo 63 = .ok (.getfield 35, 3) ∧ decode cX12_isSo 66 = .ok (.bipush 22, 2) ∧ decode cX12_isSo 68 = .ok (.aload_n 0, 1) ∧ True := dkl_ok (c := cX12_isSo) [(.if_icmp .ne 10, 3), (.aload_n 0, 1), (.invokevirtual 287, 3), (.goto 19, 3), (.aload_n 0, 1), (.getfield 35, 3), (.bipush 22, 2), (.aload_n 0, 1)] 52 (by decide +kernel)
theorem dX12_isSo_52 : decode cX12_isSo 52 = .ok (.if_icmp .ne 10, 3) := eX12_isSo_52.1
theorem dX12_isSo_55 : decode cX12_isSo 55 = .ok (.aload_n 0, 1) := eX12_isSo_52.2.1
theorem dX12_isSo_56 : decode cX12_isSo 56 = .ok (.invokevirtual 287, 3) := eX12_isSo_52.2.2.1
theorem dX12_isSo_59 : decode cX12_isSo 59 = .ok (.goto 19, 3) := eX12_isSo_52.2.2.2.1
theorem dX12_isSo_62 : decode cX12_isSo 62 = .ok (.aload_n 0, 1) := eX12_isSo_52.2.2.2.2.1
theorem dX12_isSo_63 : decode cX12_isSo 63 = .ok (.getfield 35, 3) := eX12_isSo_52.2.2.2.2.2.1
theorem dX12_isSo_66 : decode cX12_isSo 66 = .ok (.bipush 22, 2) := eX12_isSo_52.2.2.2.2.2.2.1
theorem dX12_isSo_68 : decode cX12_isSo 68 = .ok (.aload_n 0, 1) := eX12_isSo_52.2.2.2.2.2.2.2.1
theorem eX12_isSo_69 : decode cX12_isSo 69 = .ok (.getfield 35, 3) ∧ decode cX12_isSo 72 = .ok (.iload_n 1, 1) ∧ decode cX12_isSo 73 = .ok (.iconst 1, 1) ∧ decode cX12_isSo 74 = .ok (.iadd, 1) ∧ decode cX12_isSo 75 = .ok (.iaload, 1) ∧ decode cX12_isSo 76 = .ok (.iadd, 1) ∧ decode cX12_isSo 77 = .ok (.iaload, 1) ∧ decode cX12_isSo 78 = .ok (.istore_n 3, 1) ∧ True := dkl_ok (c := cX12_isSo) [(.getfield 35, 3), (.iload_n 1, 1), (.iconst 1, 1), (.iadd, 1), (.iaload, 1), (.iadd, 1), (.iaload, 1), (.istore_n 3, 1)] 69 (by decide +kernel)
theorem dX12_isSo_69 : decode cX12_isSo 69 = .ok (.getfield 35, 3) := eX12_isSo_69.1
theorem dX12_isSo_72 : decode cX12_isSo 72 = .ok (.iload_n 1, 1) := eX12_isSo_69.2.1
theorem dX12_isSo_73 : decode cX12_isSo 73 = .ok (.iconst 1, 1) := eX12_isSo_69.2.2.1
theorem dX12_isSo_74 : decode cX12_isSo 74 = .ok (.iadd, 1) := eX12_isSo_69.2.2.2.1
theorem dX12_isSo_75 : decode cX12_isSo 75 = .ok (.iaload, 1) := eX12_isSo_69.2.2.2.2.1
theorem dX12_isSo_76 : decode cX12_isSo 76 = .ok (.iadd, 1) := eX12_isSo_69.2.2.2.2.2.1
theorem dX12_isSo_77 : decode cX12_isSo 77 = .ok (.iaload, 1) := eX12_isSo_69.2.2.2.2.2.2.1
theorem dX12_isSo_78 : decode cX12_isSo 78 = .ok (.istore_n 3, 1) := eX12_isSo_69.2.2.2.2.2.2.2.1
theorem eX12_isSo_79 : decode cX12_isSo 79 = .ok (.aload_n 0, 1) ∧ decode cX12_isSo 80 = .ok (.getfield 35, 3) ∧ decode cX12_isSo 83 = .ok (.iload_n 1, 1) ∧ decode cX12_isSo 84 = .ok (.bipush 7, 2) ∧ decode cX12_isSo 86 = .ok (.iadd, 1) ∧ decode cX12_isSo 87 = .ok (.iaload, 1) ∧ decode cX12_isSo 88 = .ok (.bipush 60, 2) ∧ decode cX12_isSo 90 = .ok (.if_icmp .ne 23, 3) ∧ True := dkl_ok (c := cX12_isSo) [(.aload_n 0, 1), (.getfield 35, 3), (.iload_n 1, 1), (.bipush 7, 2), (.iadd, 1), (.iaload, 1), (.bipush 60, 2), (.if_icmp .ne 23, 3)] 79 (by decide +kernel)
theorem dX12_isSo_79 : decode cX12_isSo 79 = .ok (.aload_n 0, 1) := eX12_isSo_79.1
theorem dX12_isSo_80 : decode cX12_isSo 80 = .ok (.getfield 35, 3) := eX12_isSo_79.2.1
theorem dX12_isSo_83 : decode cX12_isSo 83 = .ok (.iload_n 1, 1) := eX12_isSo_79.2.2.1
theorem dX12_isSo_84 : decode cX12_isSo 84 = .ok (.bipush 7, 2) := eX12_isSo_79.2.2.2.1
theorem dX12_isSo_86 : decode cX12_isSo 86 = .ok (.iadd, 1) := eX12_isSo_79.2.2.2.2.1
theorem dX12_isSo_87 : decode cX12_isSo 87 = .ok (.iaload, 1) := eX12_isSo_79.2.2.2.2.2.1
theorem dX12_isSo_88 : decode cX12_isSo 88 = .ok (.bipush 60, 2) := eX12_isSo_79.2.2.2.2.2.2.1
theorem dX12_isSo_90 : decode cX12_isSo 90 = .ok (.if_icmp .ne 23, 3) := eX12_isSo_79.2.2.2.2.2.2.2.1
theorem eX12_isSo_93 : decode cX12_isSo 93 = .ok (.iload_n 3, 1) ∧ decode cX12_isSo 94 = .ok (.aload_n 0, 1) ∧ decode cX12_isSo 95 = .ok (.getfield 35, 3) ∧ decode cX12_isSo 98 = .ok (.iload_n 1, 1) ∧ decode cX12_isSo 99 = .ok (.iconst 2, 1) ∧ decode cX12_isSo 100 = .ok (.iadd, 1) ∧ decode cX12_isSo 101 = .ok (.iaload, 1) ∧ decode cX12_isSo 102 = .ok (.if_icmp .ge 7, 3) ∧ True := dkl_ok (c := cX12_isSo) [(.iload_n 3, 1), (.aload_n 0, 1), (.getfield 35, 3), (.iload_n 1, 1), (.iconst 2, 1), (.iadd, 1), (.iaload, 1), (.if_icmp .ge 7, 3)] 93 (by decide +kernel)
theorem dX12_isSo_93 : decode cX12_isSo 93 = .ok (.iload_n 3, 1) := eX12_isSo_93.1
theorem dX12_isSo_94 : decode cX12_isSo 94 = .ok (.aload_n 0, 1) := eX12_isSo_93.2.1
theorem dX12_isSo_95 : decode cX12_isSo 95 = .ok (.getfield 35, 3) := eX12_isSo_93.2.2.1
theorem dX12_isSo_98 : decode cX12_isSo 98 = .ok (.iload_n 1, 1) := eX12_isSo_93.2.2.2.1
theorem dX12_isSo_99 : decode cX12_isSo 99 = .ok (.iconst 2, 1) := eX12_isSo_93.2.2.2.2.1
theorem dX12_isSo_100 : decode cX12_isSo 100 = .ok (.iadd, 1) := eX12_isSo_93.2.2.2.2.2.1
theorem dX12_isSo_101 : decode cX12_isSo 101 = .ok (.iaload, 1) := eX12_isSo_93.2.2.2.2.2.2.1
theorem dX12_isSo_102 : decode cX12_isSo 102 = .ok (.if_icmp .ge 7, 3) := eX12_isSo_93.2.2.2.2.2.2.2.1
theorem eX12_isSo_105 : decode cX12_isSo 105 = .ok (.iconst 1, 1) ∧ decode cX12_isSo 106 = .ok (.goto 58, 3) ∧ decode cX12_isSo 109 = .ok (.iconst 0, 1) ∧ decode cX12_isSo 110 = .ok (.goto 54, 3) ∧ decode cX12_isSo 113 = .ok (.aload_n 0, 1) ∧ decode cX12_isSo 114 = .ok (.getfield 35, 3) ∧ decode cX12_isSo 117 = .ok (.iload_n 1, 1) ∧ decode cX12_isSo 118 = .ok (.bipush 7, 2) ∧ True := dkl_ok (c := cX12_isSo) [(.iconst 1, 1), (.goto 58, 3), (.iconst 0, 1), (.goto 54, 3), (.aload_n 0, 1), (.getfield 35, 3), (.iload_n 1, 1), (.bipush 7, 2)] 105 (by decide +kernel)
theorem dX12_isSo_105 : decode cX12_isSo 105 = .ok (.iconst 1, 1) := eX12_isSo_105.1
theorem dX12_isSo_106 : decode cX12_isSo 106 = .ok (.goto 58, 3) := eX12_isSo_105.2.1
theorem dX12_isSo_109 : decode cX12_isSo 109 = .ok (.iconst 0, 1) := eX12_isSo_105.2.2.1
theorem dX12_isSo_110 : decode cX12_isSo 110 = .ok (.goto 54, 3) := eX12_isSo_105.2.2.2.1
theorem dX12_isSo_113 : decode cX12_isSo 113 = .ok (.aload_n 0, 1) := eX12_isSo_105.2.2.2.2.1
theorem dX12_isSo_114 : decode cX12_isSo 114 = .ok (.getfield 35, 3) := eX12_isSo_105.2.2.2.2.2.1
theorem dX12_isSo_117 : decode cX12_isSo 117 = .ok (.iload_n 1, 1) := eX12_isSo_105.2.2.2.2.2.2.1
theorem dX12_isSo_118 : decode cX12_isSo 118 = .ok (.bipush 7, 2) := eX12_isSo_105.2.2.2.2.2.2.2.1
theorem eX12_isSo_120 : decode cX12_isSo 120 = .ok (.iadd, 1) ∧ decode cX12_isSo 121 = .ok (.iaload, 1) ∧ decode cX12_isSo 122 = .ok (.bipush 62, 2) ∧ decode cX12_isSo 124 = .ok (.if_icmp .ne 23, 3) ∧ decode cX12_isSo 127 = .ok (.iload_n 3, 1) ∧ decode cX12_isSo 128 = .ok (.aload_n 0, 1) ∧ decode cX12_isSo 129 = .ok (.getfield 35, 3) ∧ decode cX12_isSo 132 = .ok (.iload_n 1, 1) ∧ True := dkl_ok (c := cX12_isSo) [(.iadd, 1), (.iaload, 1), (.bipush 62, 2), (.if_icmp .ne 23, 3), (.iload_n 3, 1), (.aload_n 0, 1), (.getfield 35, 3), (.iload_n 1, 1)] 120 (by decide +kernel)
theorem dX12_isSo_120 : decode cX12_isSo 120 = .ok (.iadd, 1) := eX12_isSo_120.1
theorem dX12_isSo_121 : decode cX12_isSo 121 = .ok (.iaload, 1) := eX12_isSo_120.2.1
theorem dX12_isSo_122 : decode cX12_isSo 122 = .ok (.bipush 62, 2) := eX12_isSo_120.2.2.1
theorem dX12_isSo_124 : decode cX12_isSo 124 = .ok (.if_icmp .ne 23, 3) := eX12_isSo_120.2.2.2.1
theorem dX12_isSo_127 : decode cX12_isSo 127 = .ok (.iload_n 3, 1) := eX12_isSo_120.2.2.2.2.1
theorem dX12_isSo_128 : decode cX12_isSo 128 = .ok (.aload_n 0, 1) := eX12_isSo_120.2.2.2.2.2.1
theorem dX12_isSo_129 : decode cX12_isSo 129 = .ok (.getfield 35, 3) := eX12_isSo_120.2.2.2.2.2.2.1
theorem dX12_isSo_132 : decode cX12_isSo 132 = .ok (.iload_n 1, 1) := eX12_isSo_120.2.2.2.2.2.2.2.1
theorem eX12_isSo_133 : decode cX12_isSo 133 = .ok (.iconst 2, 1) ∧ decode cX12_isSo 134 = .ok (.iadd, 1) ∧ decode cX12_isSo 135 = .ok (.iaload, 1) ∧ decode cX12_isSo 136 = .ok (.if_icmp .le 7, 3) ∧ decode cX12_isSo 139 = .ok (.iconst 1, 1) ∧ decode cX12_isSo 140 = .ok (.goto 24, 3) ∧ decode cX12_isSo 143 = .ok (.iconst 0, 1) ∧ decode cX12_isSo 144 = .ok (.goto 20, 3) ∧ True := dkl_ok (c := cX12_isSo) [(.iconst 2, 1), (.iadd, 1), (.iaload, 1), (.if_icmp .le 7, 3), (.iconst 1, 1), (.goto 24, 3), (.iconst 0, 1), (.goto 20, 3)] 133 (by decide +kernel)
theorem dX12_isSo_133 : decode cX12_isSo 133 = .ok (.iconst 2, 1) := eX12_isSo_133.1
theorem dX12_isSo_134 : decode cX12_isSo 134 = .ok (.iadd, 1) := eX12_isSo_133.2.1
theorem dX12_isSo_135 : decode cX12_isSo 135 = .ok (.iaload, 1) := eX12_isSo_133.2.2.1
theorem dX12_isSo_136 : decode cX12_isSo 136 = .ok (.if_icmp .le 7, 3) := eX12_isSo_133.2.2.2.1
theorem dX12_isSo_139 : decode cX12_isSo 139 = .ok (.iconst 1, 1) := eX12_isSo_133.2.2.2.2.1
theorem dX12_isSo_140 : decode cX12_isSo 140 = .ok (.goto 24, 3) := eX12_isSo_133.2.2.2.2.2.1
theorem dX12_isSo_143 : decode cX12_isSo 143 = .ok (.iconst 0, 1) := eX12_isSo_133.2.2.2.2.2.2.1
theorem dX12_isSo_144 : decode cX12_isSo 144 = .ok (.goto 20, 3) := eX12_isSo_133.2.2.2.2.2.2.2.1
theorem eX12_isSo_147 : decode cX12_isSo 147 = .ok (.iload_n 3, 1) ∧ decode cX12_isSo 148 = .ok (.aload_n 0, 1) ∧ decode cX12_isSo 149 = .ok (.getfield 35, 3) ∧ decode cX12_isSo 152 = .ok (.iload_n 1, 1) ∧ decode cX12_isSo 153 = .ok (.iconst 2, 1) ∧ decode cX12_isSo 154 = .ok (.iadd, 1) ∧ decode cX12_isSo 155 = .ok (.iaload, 1) ∧ decode cX12_isSo 156 = .ok (.if_icmp .ne 7, 3) ∧ True := dkl_ok (c := cX12_isSo) [(.iload_n 3, 1), (.aload_n 0, 1), (.getfield 35, 3), (.iload_n 1, 1), (.iconst 2, 1), (.iadd, 1), (.iaload, 1), (.if_icmp .ne 7, 3)] 147 (by decide +kernel)
theorem dX12_isSo_147 : decode cX12_isSo 147 = .ok (.iload_n 3, 1) := eX12_isSo_147.1
theorem dX12_isSo_148 : decode cX12_isSo 148 = .ok (.aload_n 0, 1) := eX12_isSo_147.2.1
theorem dX12_isSo_149 : decode cX12_isSo 149 = .ok (.getfield 35, 3) := eX12_isSo_147.2.2.1
theorem dX12_isSo_152 : decode cX12_isSo 152 = .ok (.iload_n 1, 1) := eX12_isSo_147.2.2.2.1
theorem dX12_isSo_153 : decode cX12_isSo 153 = .ok (.iconst 2, 1) := eX12_isSo_147.2.2.2.2.1
theorem dX12_isSo_154 : decode cX12_isSo 154 = .ok (.iadd, 1) := eX12_isSo_147.2.2.2.2.2.1
theorem dX12_isSo_155 : decode cX12_isSo 155 = .ok (.iaload, 1) := eX12_isSo_147.2.2.2.2.2.2.1
theorem dX12_isSo_156 : decode cX12_isSo 156 = .ok (.if_icmp .ne 7, 3) := eX12_isSo_147.2.2.2.2.2.2.2.1
theorem eX12_isSo_159 : decode cX12_isSo 159 = .ok (.iconst 1, 1) ∧ decode cX12_isSo 160 = .ok (.goto 4, 3) ∧ decode cX12_isSo 163 = .ok (.iconst 0, 1) ∧ decode cX12_isSo 164 = .ok (.ireturn, 1) ∧ True := dkl_ok (c := cX12_isSo) [(.iconst 1, 1), (.goto 4, 3), (.iconst 0, 1), (.ireturn, 1)] 159 (by decide +kernel)
theorem dX12_isSo_159 : decode cX12_isSo 159 = .ok (.iconst 1, 1) := eX12_isSo_159.1
theorem dX12_isSo_160 : decode cX12_isSo 160 = .ok (.goto 4, 3) := eX12_isSo_159.2.1
theorem dX12_isSo_163 : decode cX12_isSo 163 = .ok (.iconst 0, 1) := eX12_isSo_159.2.2.1
theorem dX12_isSo_164 : decode cX12_isSo 164 = .ok (.ireturn, 1) := eX12_isSo_159.2.2.2.1
theorem eX12_doOne_0 : decode cX12_doOne 0 = .ok (.aload_n 0, 1) ∧ decode cX12_doOne 1 = .ok (.getfield 417, 3) ∧ decode cX12_doOne 4 = .ok (.sipush 300, 3) ∧ decode cX12_doOne 7 = .ok (.if_icmp .ne 14, 3) ∧ decode cX12_doOne 10 = .ok (.aload_n 0, 1) ∧ decode cX12_doOne 11 = .ok (.iconst 1, 1) ∧ decode cX12_doOne 12 = .ok (.putfield 420, 3) ∧ decode cX12_doOne 15 = .ok (.aload_n 0, 1) ∧ True := dkl_ok (c := cX12_doOne) [(.aload_n 0, 1), (.getfield 417, 3), (.sipush 300, 3), (.if_icmp .ne 14, 3), (.aload_n 0, 1), (.iconst 1, 1), (.putfield 420, 3), (.aload_n 0, 1)] 0 (by decide +kernel)
theorem dX12_doOne_0 : decode cX12_doOne 0 = .ok (.aload_n 0, 1) := eX12_doOne_0.1
theorem dX12_doOne_1 : decode cX12_doOne 1 = .ok (.getfield 417, 3) := eX12_doOne_0.2.1
theorem dX12_doOne_4 : decode cX12_doOne 4 = .ok (.sipush 300, 3) := eX12_doOne_0.2.2.1
theorem dX12_doOne_7 : decode cX12_doOne 7 = .ok (.if_icmp .ne 14, 3) := eX12_doOne_0.2.2.2.1
theorem dX12_doOne_10 : decode cX12_doOne 10 = .ok (.aload_n 0, 1) := eX12_doOne_0.2.2.2.2.1
theorem dX12_doOne_11 : decode cX12_doOne 11 = .ok (.iconst 1, 1) := eX12_doOne_0.2.2.2.2.2.1
theorem dX12_doOne_12 : decode cX12_doOne 12 = .ok (.putfield 420, 3) := eX12_doOne_0.2.2.2.2.2.2.1
theorem dX12_doOne_15 : decode cX12_doOne 15 = .ok (.aload_n 0, 1) := eX12_doOne_0.2.2.2.2.2.2.2.1
theorem eX12_doOne_16 : decode cX12_doOne 16 = .ok (.iconst 1, 1) ∧ decode cX12_doOne 17 = .ok (.putfield 423, 3) ∧ decode cX12_doOne 20 = .ok (.return_, 1) ∧ decode cX12_doOne 21 = .ok (.aload_n 0, 1) ∧ decode cX12_doOne 22 = .ok (.dup, 1) ∧ decode cX12_doOne 23 = .ok (.getfield 417, 3) ∧ decode cX12_doOne 26 = .ok (.iconst 1, 1) ∧ decode cX12_doOne 27 = .ok (.iadd, 1) ∧ True := dkl_ok (c := cX12_doOne) [(.iconst 1, 1), (.putfield 423, 3), (.return_, 1), (.aload_n 0, 1), (.dup, 1), (.getfield 417, 3), (.iconst 1, 1), (.iadd, 1)] 16 (by decide +kernel)
theorem dX12_doOne_16 : decode cX12_doOne 16 = .ok (.iconst 1, 1) := eX12_doOne_16.1
theorem dX12_doOne_17 : decode cX12_doOne 17 = .ok (.putfield 423, 3) := eX12_doOne_16.2.1
theorem dX12_doOne_20 : decode cX12_doOne 20 = .ok (.return_, 1) := eX12_doOne_16.2.2.1
theorem dX12_doOne_21 : decode cX12_doOne 21 = .ok (.aload_n 0, 1) := eX12_doOne_16.2.2.2.1
theorem dX12_doOne_22 : decode cX12_doOne 22 = .ok (.dup, 1) := eX12_doOne_16.2.2.2.2.1
theorem dX12_doOne_23 : decode cX12_doOne 23 = .ok (.getfield 417, 3) := eX12_doOne_16.2.2.2.2.2.1
theorem dX12_doOne_26 : decode cX12_doOne 26 = .ok (.iconst 1, 1) := eX12_doOne_16.2.2.2.2.2.2.1
theorem dX12_doOne_27 : decode cX12_doOne 27 = .ok (.iadd, 1) := eX12_doOne_16.2.2.2.2.2.2.2.1
theorem eX12_doOne_28 : decode cX12_doOne 28 = .ok (.putfield 417, 3) ∧ decode cX12_doOne 31 = .ok (.sipush 656, 3) ∧ decode cX12_doOne 34 = .ok (.bipush 9, 2) ∧ decode cX12_doOne 36 = .ok (.iload_n 1, 1) ∧ decode cX12_doOne 37 = .ok (.imul, 1) ∧ decode cX12_doOne 38 = .ok (.iadd, 1) ∧ decode cX12_doOne 39 = .ok (.istore_n 2, 1) ∧ decode cX12_doOne 40 = .ok (.aload_n 0, 1) ∧ True := dkl_ok (c := cX12_doOne) [(.putfield 417, 3), (.sipush 656, 3), (.bipush 9, 2), (.iload_n 1, 1), (.imul, 1), (.iadd, 1), (.istore_n 2, 1), (.aload_n 0, 1)] 28 (by decide +kernel)
theorem dX12_doOne_28 : decode cX12_doOne 28 = .ok (.putfield 417, 3) := eX12_doOne_28.1
theorem dX12_doOne_31 : decode cX12_doOne 31 = .ok (.sipush 656, 3) := eX12_doOne_28.2.1
theorem dX12_doOne_34 : decode cX12_doOne 34 = .ok (.bipush 9, 2) := eX12_doOne_28.2.2.1
theorem dX12_doOne_36 : decode cX12_doOne 36 = .ok (.iload_n 1, 1) := eX12_doOne_28.2.2.2.1
theorem dX12_doOne_37 : decode cX12_doOne 37 = .ok (.imul, 1) := eX12_doOne_28.2.2.2.2.1
theorem dX12_doOne_38 : decode cX12_doOne 38 = .ok (.iadd, 1) := eX12_doOne_28.2.2.2.2.2.1
theorem dX12_doOne_39 : decode cX12_doOne 39 = .ok (.istore_n 2, 1) := eX12_doOne_28.2.2.2.2.2.2.1
theorem dX12_doOne_40 : decode cX12_doOne 40 = .ok (.aload_n 0, 1) := eX12_doOne_28.2.2.2.2.2.2.2.1
theorem eX12_doOne_41 : decode cX12_doOne 41 = .ok (.getfield 35, 3) ∧ decode cX12_doOne 44 = .ok (.iload_n 2, 1) ∧ decode cX12_doOne 45 = .ok (.iaload, 1) ∧ decode cX12_doOne 46 = .ok (.istore_n 3, 1) ∧ decode cX12_doOne 47 = .ok (.iload_n 3, 1) ∧ decode cX12_doOne 48 = .ok (.iconst 3, 1) ∧ decode cX12_doOne 49 = .ok (.if_icmp .ge 28, 3) ∧ decode cX12_doOne 52 = .ok (.aload_n 0, 1) ∧ True := dkl_ok (c := cX12_doOne) [(.getfield 35, 3), (.iload_n 2, 1), (.iaload, 1), (.istore_n 3, 1), (.iload_n 3, 1), (.iconst 3, 1), (.if_icmp .ge 28, 3), (.aload_n 0, 1)] 41 (by decide +kernel)
theorem dX12_doOne_41 : decode cX12_doOne 41 = .ok (.getfield 35, 3) := eX12_doOne_41.1
theorem dX12_doOne_44 : decode cX12_doOne 44 = .ok (.iload_n 2, 1) := eX12_doOne_41.2.1
theorem dX12_doOne_45 : decode cX12_doOne 45 = .ok (.iaload, 1) := eX12_doOne_41.2.2.1
theorem dX12_doOne_46 : decode cX12_doOne 46 = .ok (.istore_n 3, 1) := eX12_doOne_41.2.2.2.1
theorem dX12_doOne_47 : decode cX12_doOne 47 = .ok (.iload_n 3, 1) := eX12_doOne_41.2.2.2.2.1
theorem dX12_doOne_48 : decode cX12_doOne 48 = .ok (.iconst 3, 1) := eX12_doOne_41.2.2.2.2.2.1
theorem dX12_doOne_49 : decode cX12_doOne 49 = .ok (.if_icmp .ge 28, 3) := eX12_doOne_41.2.2.2.2.2.2.1
theorem dX12_doOne_52 : decode cX12_doOne 52 = .ok (.aload_n 0, 1) := eX12_doOne_41.2.2.2.2.2.2.2.1
theorem eX12_doOne_53 : decode cX12_doOne 53 = .ok (.dup, 1) ∧ decode cX12_doOne 54 = .ok (.getfield 426, 3) ∧ decode cX12_doOne 57 = .ok (.aload_n 0, 1) ∧ decode cX12_doOne 58 = .ok (.iload_n 2, 1) ∧ decode cX12_doOne 59 = .ok (.invokevirtual 429, 3) ∧ decode cX12_doOne 62 = .ok (.ifCond .eq 7, 3) ∧ decode cX12_doOne 65 = .ok (.iconst 0, 1) ∧ decode cX12_doOne 66 = .ok (.goto 4, 3) ∧ True := dkl_ok (c := cX12_doOne) [(.dup, 1), (.getfield 426, 3), (.aload_n 0, 1), (.iload_n 2, 1), (.invokevirtual 429, 3), (.ifCond .eq 7, 3), (.iconst 0, 1), (.goto 4, 3)] 53 (by decide +kernel)
theorem dX12_doOne_53 : decode cX12_doOne 53 = .ok (.dup, 1) := eX12_doOne_53.1
theorem dX12_doOne_54 : decode cX12_doOne 54 = .ok (.getfield 426, 3) := eX12_doOne_53.2.1
theorem dX12_doOne_57 : decode cX12_doOne 57 = .ok (.aload_n 0, 1) := eX12_doOne_53.2.2.1
theorem dX12_doOne_58 : decode cX12_doOne 58 = .ok (.iload_n 2, 1) := eX12_doOne_53.2.2.2.1
theorem dX12_doOne_59 : decode cX12_doOne 59 = .ok (.invokevirtual 429, 3) := eX12_doOne_53.2.2.2.2.1
theorem dX12_doOne_62 : decode cX12_doOne 62 = .ok (.ifCond .eq 7, 3) := eX12_doOne_53.2.2.2.2.2.1
theorem dX12_doOne_65 : decode cX12_doOne 65 = .ok (.iconst 0, 1) := eX12_doOne_53.2.2.2.2.2.2.1
theorem dX12_doOne_66 : decode cX12_doOne 66 = .ok (.goto 4, 3) := eX12_doOne_53.2.2.2.2.2.2.2.1
theorem eX12_doOne_69 : decode cX12_doOne 69 = .ok (.iconst 1, 1) ∧ decode cX12_doOne 70 = .ok (.iadd, 1) ∧ decode cX12_doOne 71 = .ok (.putfield 426, 3) ∧ decode cX12_doOne 74 = .ok (.goto 98, 3) ∧ decode cX12_doOne 77 = .ok (.iload_n 3, 1) ∧ decode cX12_doOne 78 = .ok (.iconst 3, 1) ∧ decode cX12_doOne 79 = .ok (.if_icmp .ne 30, 3) ∧ decode cX12_doOne 82 = .ok (.aload_n 0, 1) ∧ True := dkl_ok (c := cX12_doOne) [(.iconst 1, 1), (.iadd, 1), (.putfield 426, 3), (.goto 98, 3), (.iload_n 3, 1), (.iconst 3, 1), (.if_icmp .ne 30, 3), (.aload_n 0, 1)] 69 (by decide +kernel)
theorem dX12_doOne_69 : decode cX12_doOne 69 = .ok (.iconst 1, 1) := eX12_doOne_69.1
theorem dX12_doOne_70 : decode cX12_doOne 70 = .ok (.iadd, 1) := eX12_doOne_69.2.1
theorem dX12_doOne_71 : decode cX12_doOne 71 = .ok (.putfield 426, 3) := eX12_doOne_69.2.2.1
theorem dX12_doOne_74 : decode cX12_doOne 74 = .ok (.goto 98, 3) := eX12_doOne_69.2.2.2.1
theorem dX12_doOne_77 : decode cX12_doOne 77 = .ok (.iload_n 3, 1) := eX12_doOne_69.2.2.2.2.1
theorem dX12_doOne_78 : decode cX12_doOne 78 = .ok (.iconst 3, 1) := eX12_doOne_69.2.2.2.2.2.1
theorem dX12_doOne_79 : decode cX12_doOne 79 = .ok (.if_icmp .ne 30, 3) := eX12_doOne_69.2.2.2.2.2.2.1
theorem dX12_doOne_82 : decode cX12_doOne 82 = .ok (.aload_n 0, 1) := eX12_doOne_69.2.2.2.2.2.2.2.1
theorem eX12_doOne_83 : decode cX12_doOne 83 = .ok (.iload_n 2, 1) ∧ decode cX12_doOne 84 = .ok (.invokevirtual 432, 3) ∧ decode cX12_doOne 87 = .ok (.ifCond .eq 22, 3) ∧ decode cX12_doOne 90 = .ok (.aload_n 0, 1) ∧ decode cX12_doOne 91 = .ok (.iload_n 1, 1) ∧ decode cX12_doOne 92 = .ok (.iconst 1, 1) ∧ decode cX12_doOne 93 = .ok (.iadd, 1) ∧ decode cX12_doOne 94 = .ok (.aload_n 0, 1) ∧ True := dkl_ok (c := cX12_doOne) [(.iload_n 2, 1), (.invokevirtual 432, 3), (.ifCond .eq 22, 3), (.aload_n 0, 1), (.iload_n 1, 1), (.iconst 1, 1), (.iadd, 1), (.aload_n 0, 1)] 83 (by decide +kernel)
theorem dX12_doOne_83 : decode cX12_doOne 83 = .ok (.iload_n 2, 1) := eX12_doOne_83.1
theorem dX12_doOne_84 : decode cX12_doOne 84 = .ok (.invokevirtual 432, 3) := eX12_doOne_83.2.1
theorem dX12_doOne_87 : decode cX12_doOne 87 = .ok (.ifCond .eq 22, 3) := eX12_doOne_83.2.2.1
theorem dX12_doOne_90 : decode cX12_doOne 90 = .ok (.aload_n 0, 1) := eX12_doOne_83.2.2.2.1
theorem dX12_doOne_91 : decode cX12_doOne 91 = .ok (.iload_n 1, 1) := eX12_doOne_83.2.2.2.2.1
theorem dX12_doOne_92 : decode cX12_doOne 92 = .ok (.iconst 1, 1) := eX12_doOne_83.2.2.2.2.2.1
theorem dX12_doOne_93 : decode cX12_doOne 93 = .ok (.iadd, 1) := eX12_doOne_83.2.2.2.2.2.2.1
theorem dX12_doOne_94 : decode cX12_doOne 94 = .ok (.aload_n 0, 1) := eX12_doOne_83.2.2.2.2.2.2.2.1
theorem eX12_doOne_95 : decode cX12_doOne 95 = .ok (.getfield 35, 3) ∧ decode cX12_doOne 98 = .ok (.iload_n 2, 1) ∧ decode cX12_doOne 99 = .ok (.bipush 8, 2) ∧ decode cX12_doOne 101 = .ok (.iadd, 1) ∧ decode cX12_doOne 102 = .ok (.iaload, 1) ∧ decode cX12_doOne 103 = .ok (.invokevirtual 435, 3) ∧ decode cX12_doOne 106 = .ok (.goto 66, 3) ∧ decode cX12_doOne 109 = .ok (.iload_n 3, 1) ∧ True := dkl_ok (c := cX12_doOne) [(.getfield 35, 3), (.iload_n 2, 1), (.bipush 8, 2), (.iadd, 1), (.iaload, 1), (.invokevirtual 435, 3), (.goto 66, 3), (.iload_n 3, 1)] 95 (by decide +kernel)
theorem dX12_doOne_95 : decode cX12_doOne 95 = .ok (.getfield 35, 3) := eX12_doOne_95.1
theorem dX12_doOne_98 : decode cX12_doOne 98 = .ok (.iload_n 2, 1) := eX12_doOne_95.2.1
theorem dX12_doOne_99 : decode cX12_doOne 99 = .ok (.bipush 8, 2) := eX12_doOne_95.2.2.1
theorem dX12_doOne_101 : decode cX12_doOne 101 = .ok (.iadd, 1) := eX12_doOne_95.2.2.2.1
theorem dX12_doOne_102 : decode cX12_doOne 102 = .ok (.iaload, 1) := eX12_doOne_95.2.2.2.2.1
theorem dX12_doOne_103 : decode cX12_doOne 103 = .ok (.invokevirtual 435, 3) := eX12_doOne_95.2.2.2.2.2.1
theorem dX12_doOne_106 : decode cX12_doOne 106 = .ok (.goto 66, 3) := eX12_doOne_95.2.2.2.2.2.2.1
theorem dX12_doOne_109 : decode cX12_doOne 109 = .ok (.iload_n 3, 1) := eX12_doOne_95.2.2.2.2.2.2.2.1
theorem eX12_doOne_110 : decode cX12_doOne 110 = .ok (.iconst 4, 1) ∧ decode cX12_doOne 111 = .ok (.if_icmp .ne 51, 3) ∧ decode cX12_doOne 114 = .ok (.iconst 0, 1) ∧ decode cX12_doOne 115 = .ok (.istore 4, 2) ∧ decode cX12_doOne 117 = .ok (.iload 4, 2) ∧ decode cX12_doOne 119 = .ok (.aload_n 0, 1) ∧ decode cX12_doOne 120 = .ok (.getfield 35, 3) ∧ decode cX12_doOne 123 = .ok (.iload_n 2, 1) ∧ True := dkl_ok (c := cX12_doOne) [(.iconst 4, 1), (.if_icmp .ne 51, 3), (.iconst 0, 1), (.istore 4, 2), (.iload 4, 2), (.aload_n 0, 1), (.getfield 35, 3), (.iload_n 2, 1)] 110 (by decide +kernel)
theorem dX12_doOne_110 : decode cX12_doOne 110 = .ok (.iconst 4, 1) := eX12_doOne_110.1
theorem dX12_doOne_111 : decode cX12_doOne 111 = .ok (.if_icmp .ne 51, 3) := eX12_doOne_110.2.1
theorem dX12_doOne_114 : decode cX12_doOne 114 = .ok (.iconst 0, 1) := eX12_doOne_110.2.2.1
theorem dX12_doOne_115 : decode cX12_doOne 115 = .ok (.istore 4, 2) := eX12_doOne_110.2.2.2.1
theorem dX12_doOne_117 : decode cX12_doOne 117 = .ok (.iload 4, 2) := eX12_doOne_110.2.2.2.2.1
theorem dX12_doOne_119 : decode cX12_doOne 119 = .ok (.aload_n 0, 1) := eX12_doOne_110.2.2.2.2.2.1
theorem dX12_doOne_120 : decode cX12_doOne 120 = .ok (.getfield 35, 3) := eX12_doOne_110.2.2.2.2.2.2.1
theorem dX12_doOne_123 : decode cX12_doOne 123 = .ok (.iload_n 2, 1) := eX12_doOne_110.2.2.2.2.2.2.2.1
theorem eX12_doOne_124 : decode cX12_doOne 124 = .ok (.iconst 1, 1) ∧ decode cX12_doOne 125 = .ok (.iadd, 1) ∧ decode cX12_doOne 126 = .ok (.iaload, 1) ∧ decode cX12_doOne 127 = .ok (.if_icmp .ge 32, 3) ∧ decode cX12_doOne 130 = .ok (.aload_n 0, 1) ∧ decode cX12_doOne 131 = .ok (.getfield 420, 3) ∧ decode cX12_doOne 134 = .ok (.ifCond .ne 25, 3) ∧ decode cX12_doOne 137 = .ok (.aload_n 0, 1) ∧ True := dkl_ok (c := cX12_doOne) [(.iconst 1, 1), (.iadd, 1), (.iaload, 1), (.if_icmp .ge 32, 3), (.aload_n 0, 1), (.getfield 420, 3), (.ifCond .ne 25, 3), (.aload_n 0, 1)] 124 (by decide +kernel)
theorem dX12_doOne_124 : decode cX12_doOne 124 = .ok (.iconst 1, 1) := eX12_doOne_124.1
theorem dX12_doOne_125 : decode cX12_doOne 125 = .ok (.iadd, 1) := eX12_doOne_124.2.1
theorem dX12_doOne_126 : decode cX12_doOne 126 = .ok (.iaload, 1) := eX12_doOne_124.2.2.1
theorem dX12_doOne_127 : decode cX12_doOne 127 = .ok (.if_icmp .ge 32, 3) := eX12_doOne_124.2.2.2.1
theorem dX12_doOne_130 : decode cX12_doOne 130 = .ok (.aload_n 0, 1) := eX12_doOne_124.2.2.2.2.1
theorem dX12_doOne_131 : decode cX12_doOne 131 = .ok (.getfield 420, 3) := eX12_doOne_124.2.2.2.2.2.1
theorem dX12_doOne_134 : decode cX12_doOne 134 = .ok (.ifCond .ne 25, 3) := eX12_doOne_124.2.2.2.2.2.2.1
theorem dX12_doOne_137 : decode cX12_doOne 137 = .ok (.aload_n 0, 1) := eX12_doOne_124.2.2.2.2.2.2.2.1
theorem eX12_doOne_138 : decode cX12_doOne 138 = .ok (.iload_n 1, 1) ∧ decode cX12_doOne 139 = .ok (.iconst 1, 1) ∧ decode cX12_doOne 140 = .ok (.iadd, 1) ∧ decode cX12_doOne 141 = .ok (.aload_n 0, 1) ∧ decode cX12_doOne 142 = .ok (.getfield 35, 3) ∧ decode cX12_doOne 145 = .ok (.iload_n 2, 1) ∧ decode cX12_doOne 146 = .ok (.bipush 8, 2) ∧ decode cX12_doOne 148 = .ok (.iadd, 1) ∧ True := dkl_ok (c := cX12_doOne) [(.iload_n 1, 1), (.iconst 1, 1), (.iadd, 1), (.aload_n 0, 1), (.getfield 35, 3), (.iload_n 2, 1), (.bipush 8, 2), (.iadd, 1)] 138 (by decide +kernel)
theorem dX12_doOne_138 : decode cX12_doOne 138 = .ok (.iload_n 1, 1) := eX12_doOne_138.1
theorem dX12_doOne_139 : decode cX12_doOne 139 = .ok (.iconst 1, 1) := eX12_doOne_138.2.1
theorem dX12_doOne_140 : decode cX12_doOne 140 = .ok (.iadd, 1) := eX12_doOne_138.2.2.1
theorem dX12_doOne_141 : decode cX12_doOne 141 = .ok (.aload_n 0, 1) := eX12_doOne_138.2.2.2.1
theorem dX12_doOne_142 : decode cX12_doOne 142 = .ok (.getfield 35, 3) := eX12_doOne_138.2.2.2.2.1
theorem dX12_doOne_145 : decode cX12_doOne 145 = .ok (.iload_n 2, 1) := eX12_doOne_138.2.2.2.2.2.1
theorem dX12_doOne_146 : decode cX12_doOne 146 = .ok (.bipush 8, 2) := eX12_doOne_138.2.2.2.2.2.2.1
theorem dX12_doOne_148 : decode cX12_doOne 148 = .ok (.iadd, 1) := eX12_doOne_138.2.2.2.2.2.2.2.1
theorem eX12_doOne_149 : decode cX12_doOne 149 = .ok (.iaload, 1) ∧ decode cX12_doOne 150 = .ok (.invokevirtual 435, 3) ∧ decode cX12_doOne 153 = .ok (.iinc 4 1, 3) ∧ decode cX12_doOne 156 = .ok (.goto (-39), 3) ∧ decode cX12_doOne 159 = .ok (.goto 13, 3) ∧ decode cX12_doOne 162 = .ok (.iload_n 3, 1) ∧ decode cX12_doOne 163 = .ok (.iconst 4, 1) ∧ decode cX12_doOne 164 = .ok (.if_icmp .le 8, 3) ∧ True := dkl_ok (c := cX12_doOne) [(.iaload, 1), (.invokevirtual 435, 3), (.iinc 4 1, 3), (.goto (-39), 3), (.goto 13, 3), (.iload_n 3, 1), (.iconst 4, 1), (.if_icmp .le 8, 3)] 149 (by decide +kernel)
theorem dX12_doOne_149 : decode cX12_doOne 149 = .ok (.iaload, 1) := eX12_doOne_149.1
theorem dX12_doOne_150 : decode cX12_doOne 150 = .ok (.invokevirtual 435, 3) := eX12_doOne_149.2.1
theorem dX12_doOne_153 : decode cX12_doOne 153 = .ok (.iinc 4 1, 3) := eX12_doOne_149.2.2.1
theorem dX12_doOne_156 : decode cX12_doOne 156 = .ok (.goto (-39), 3) := eX12_doOne_149.2.2.2.1
theorem dX12_doOne_159 : decode cX12_doOne 159 = .ok (.goto 13, 3) := eX12_doOne_149.2.2.2.2.1
theorem dX12_doOne_162 : decode cX12_doOne 162 = .ok (.iload_n 3, 1) := eX12_doOne_149.2.2.2.2.2.1
theorem dX12_doOne_163 : decode cX12_doOne 163 = .ok (.iconst 4, 1) := eX12_doOne_149.2.2.2.2.2.2.1
theorem dX12_doOne_164 : decode cX12_doOne 164 = .ok (.if_icmp .le 8, 3) := eX12_doOne_149.2.2.2.2.2.2.2.1
theorem eX12_doOne_167 : decode cX12_doOne 167 = .ok (.aload_n 0, 1) ∧ decode cX12_doOne 168 = .ok (.iconst 1, 1) ∧ decode cX12_doOne 169 = .ok (.putfield 420, 3) ∧ decode cX12_doOne 172 = .ok (.return_, 1) ∧ True := dkl_ok (c := cX12_doOne) [(.aload_n 0, 1), (.iconst 1, 1), (.putfield 420, 3), (.return_, 1)] 167 (by decide +kernel)
theorem dX12_doOne_167 : decode cX12_doOne 167 = .ok (.aload_n 0, 1) := eX12_doOne_167.1
theorem dX12_doOne_168 : decode cX12_doOne 168 = .ok (.iconst 1, 1) := eX12_doOne_167.2.1
theorem dX12_doOne_169 : decode cX12_doOne 169 = .ok (.putfield 420, 3) := eX12_doOne_167.2.2.1
theorem dX12_doOne_172 : decode cX12_doOne 172 = .ok (.return_, 1) := eX12_doOne_167.2.2.2.1
theorem eX12_doAll_0 : decode cX12_doAll 0 = .ok (.iload_n 1, 1) ∧ decode cX12_doAll 1 = .ok (.istore_n 3, 1) ∧ decode cX12_doAll 2 = .ok (.iload_n 3, 1) ∧ decode cX12_doAll 3 = .ok (.iload_n 2, 1) ∧ decode cX12_doAll 4 = .ok (.if_icmp .ge 35, 3) ∧ decode cX12_doAll 7 = .ok (.aload_n 0, 1) ∧ decode cX12_doAll 8 = .ok (.getfield 420, 3) ∧ decode cX12_doAll 11 = .ok (.ifCond .ne 28, 3) ∧ True := dkl_ok (c := cX12_doAll) [(.iload_n 1, 1), (.istore_n 3, 1), (.iload_n 3, 1), (.iload_n 2, 1), (.if_icmp .ge 35, 3), (.aload_n 0, 1), (.getfield 420, 3), (.ifCond .ne 28, 3)] 0 (by decide +kernel)
theorem dX12_doAll_0 : decode cX12_doAll 0 = .ok (.iload_n 1, 1) := eX12_doAll_0.1
theorem dX12_doAll_1 : decode cX12_doAll 1 = .ok (.istore_n 3, 1) := eX12_doAll_0.2.1
theorem dX12_doAll_2 : decode cX12_doAll 2 = .ok (.iload_n 3, 1) := eX12_doAll_0.2.2.1
theorem dX12_doAll_3 : decode cX12_doAll 3 = .ok (.iload_n 2, 1) := eX12_doAll_0.2.2.2.1
theorem dX12_doAll_4 : decode cX12_doAll 4 = .ok (.if_icmp .ge 35, 3) := eX12_doAll_0.2.2.2.2.1
theorem dX12_doAll_7 : decode cX12_doAll 7 = .ok (.aload_n 0, 1) := eX12_doAll_0.2.2.2.2.2.1
theorem dX12_doAll_8 : decode cX12_doAll 8 = .ok (.getfield 420, 3) := eX12_doAll_0.2.2.2.2.2.2.1
theorem dX12_doAll_11 : decode cX12_doAll 11 = .ok (.ifCond .ne 28, 3) := eX12_doAll_0.2.2.2.2.2.2.2.1
theorem eX12_doAll_14 : decode cX12_doAll 14 = .ok (.aload_n 0, 1) ∧ decode cX12_doAll 15 = .ok (.iload_n 3, 1) ∧ decode cX12_doAll 16 = .ok (.invokevirtual 438, 3) ∧ decode cX12_doAll 19 = .ok (.aload_n 0, 1) ∧ decode cX12_doAll 20 = .ok (.getfield 35, 3) ∧ decode cX12_doAll 23 = .ok (.sipush 656, 3) ∧ decode cX12_doAll 26 = .ok (.bipush 9, 2) ∧ decode cX12_doAll 28 = .ok (.iload_n 3, 1) ∧ True := dkl_ok (c := cX12_doAll) [(.aload_n 0, 1), (.iload_n 3, 1), (.invokevirtual 438, 3), (.aload_n 0, 1), (.getfield 35, 3), (.sipush 656, 3), (.bipush 9, 2), (.iload_n 3, 1)] 14 (by decide +kernel)
theorem dX12_doAll_14 : decode cX12_doAll 14 = .ok (.aload_n 0, 1) := eX12_doAll_14.1
theorem dX12_doAll_15 : decode cX12_doAll 15 = .ok (.iload_n 3, 1) := eX12_doAll_14.2.1
theorem dX12_doAll_16 : decode cX12_doAll 16 = .ok (.invokevirtual 438, 3) := eX12_doAll_14.2.2.1
theorem dX12_doAll_19 : decode cX12_doAll 19 = .ok (.aload_n 0, 1) := eX12_doAll_14.2.2.2.1
theorem dX12_doAll_20 : decode cX12_doAll 20 = .ok (.getfield 35, 3) := eX12_doAll_14.2.2.2.2.1
theorem dX12_doAll_23 : decode cX12_doAll 23 = .ok (.sipush 656, 3) := eX12_doAll_14.2.2.2.2.2.1
theorem dX12_doAll_26 : decode cX12_doAll 26 = .ok (.bipush 9, 2) := eX12_doAll_14.2.2.2.2.2.2.1
theorem dX12_doAll_28 : decode cX12_doAll 28 = .ok (.iload_n 3, 1) := eX12_doAll_14.2.2.2.2.2.2.2.1
theorem eX12_doAll_29 : decode cX12_doAll 29 = .ok (.imul, 1) ∧ decode cX12_doAll 30 = .ok (.iadd, 1) ∧ decode cX12_doAll 31 = .ok (.bipush 8, 2) ∧ decode cX12_doAll 33 = .ok (.iadd, 1) ∧ decode cX12_doAll 34 = .ok (.iaload, 1) ∧ decode cX12_doAll 35 = .ok (.istore_n 3, 1) ∧ decode cX12_doAll 36 = .ok (.goto (-34), 3) ∧ decode cX12_doAll 39 = .ok (.return_, 1) ∧ True := dkl_ok (c := cX12_doAll) [(.imul, 1), (.iadd, 1), (.bipush 8, 2), (.iadd, 1), (.iaload, 1), (.istore_n 3, 1), (.goto (-34), 3), (.return_, 1)] 29 (by decide +kernel)
theorem dX12_doAll_29 : decode cX12_doAll 29 = .ok (.imul, 1) := eX12_doAll_29.1
theorem dX12_doAll_30 : decode cX12_doAll 30 = .ok (.iadd, 1) := eX12_doAll_29.2.1
theorem dX12_doAll_31 : decode cX12_doAll 31 = .ok (.bipush 8, 2) := eX12_doAll_29.2.2.1
theorem dX12_doAll_33 : decode cX12_doAll 33 = .ok (.iadd, 1) := eX12_doAll_29.2.2.2.1
theorem dX12_doAll_34 : decode cX12_doAll 34 = .ok (.iaload, 1) := eX12_doAll_29.2.2.2.2.1
theorem dX12_doAll_35 : decode cX12_doAll 35 = .ok (.istore_n 3, 1) := eX12_doAll_29.2.2.2.2.2.1
theorem dX12_doAll_36 : decode cX12_doAll 36 = .ok (.goto (-34), 3) := eX12_doAll_29.2.2.2.2.2.2.1
theorem dX12_doAll_39 : decode cX12_doAll 39 = .ok (.return_, 1) := eX12_doAll_29.2.2.2.2.2.2.2.1
theorem eX12_plays_0 : decode cX12_plays 0 = .ok (.aload_n 0, 1) ∧ decode cX12_plays 1 = .ok (.iload_n 1, 1) ∧ decode cX12_plays 2 = .ok (.putfield 395, 3) ∧ decode cX12_plays 5 = .ok (.aload_n 0, 1) ∧ decode cX12_plays 6 = .ok (.iconst 0, 1) ∧ decode cX12_plays 7 = .ok (.putfield 417, 3) ∧ decode cX12_plays 10 = .ok (.aload_n 0, 1) ∧ decode cX12_plays 11 = .ok (.iconst 0, 1) ∧ True := dkl_ok (c := cX12_plays) [(.aload_n 0, 1), (.iload_n 1, 1), (.putfield 395, 3), (.aload_n 0, 1), (.iconst 0, 1), (.putfield 417, 3), (.aload_n 0, 1), (.iconst 0, 1)] 0 (by decide +kernel)
theorem dX12_plays_0 : decode cX12_plays 0 = .ok (.aload_n 0, 1) := eX12_plays_0.1
theorem dX12_plays_1 : decode cX12_plays 1 = .ok (.iload_n 1, 1) := eX12_plays_0.2.1
theorem dX12_plays_2 : decode cX12_plays 2 = .ok (.putfield 395, 3) := eX12_plays_0.2.2.1
theorem dX12_plays_5 : decode cX12_plays 5 = .ok (.aload_n 0, 1) := eX12_plays_0.2.2.2.1
theorem dX12_plays_6 : decode cX12_plays 6 = .ok (.iconst 0, 1) := eX12_plays_0.2.2.2.2.1
theorem dX12_plays_7 : decode cX12_plays 7 = .ok (.putfield 417, 3) := eX12_plays_0.2.2.2.2.2.1
theorem dX12_plays_10 : decode cX12_plays 10 = .ok (.aload_n 0, 1) := eX12_plays_0.2.2.2.2.2.2.1
theorem dX12_plays_11 : decode cX12_plays 11 = .ok (.iconst 0, 1) := eX12_plays_0.2.2.2.2.2.2.2.1
theorem eX12_plays_12 : decode cX12_plays 12 = .ok (.putfield 426, 3) ∧ decode cX12_plays 15 = .ok (.aload_n 0, 1) ∧ decode cX12_plays 16 = .ok (.iconst 0, 1) ∧ decode cX12_plays 17 = .ok (.putfield 405, 3) ∧ decode cX12_plays 20 = .ok (.aload_n 0, 1) ∧ decode cX12_plays 21 = .ok (.iconst 0, 1) ∧ decode cX12_plays 22 = .ok (.putfield 408, 3) ∧ decode cX12_plays 25 = .ok (.aload_n 0, 1) ∧ True := dkl_ok (c := cX12_plays) [(.putfield 426, 3), (.aload_n 0, 1), (.iconst 0, 1), (.putfield 405, 3), (.aload_n 0, 1), (.iconst 0, 1), (.putfield 408, 3), (.aload_n 0, 1)] 12 (by decide +kernel)
theorem dX12_plays_12 : decode cX12_plays 12 = .ok (.putfield 426, 3) := eX12_plays_12.1
theorem dX12_plays_15 : decode cX12_plays 15 = .ok (.aload_n 0, 1) := eX12_plays_12.2.1
theorem dX12_plays_16 : decode cX12_plays 16 = .ok (.iconst 0, 1) := eX12_plays_12.2.2.1
theorem dX12_plays_17 : decode cX12_plays 17 = .ok (.putfield 405, 3) := eX12_plays_12.2.2.2.1
theorem dX12_plays_20 : decode cX12_plays 20 = .ok (.aload_n 0, 1) := eX12_plays_12.2.2.2.2.1
theorem dX12_plays_21 : decode cX12_plays 21 = .ok (.iconst 0, 1) := eX12_plays_12.2.2.2.2.2.1
theorem dX12_plays_22 : decode cX12_plays 22 = .ok (.putfield 408, 3) := eX12_plays_12.2.2.2.2.2.2.1
theorem dX12_plays_25 : decode cX12_plays 25 = .ok (.aload_n 0, 1) := eX12_plays_12.2.2.2.2.2.2.2.1
theorem eX12_plays_26 : decode cX12_plays 26 = .ok (.iconst 0, 1) ∧ decode cX12_plays 27 = .ok (.putfield 411, 3) ∧ decode cX12_plays 30 = .ok (.aload_n 0, 1) ∧ decode cX12_plays 31 = .ok (.iconst 0, 1) ∧ decode cX12_plays 32 = .ok (.putfield 423, 3) ∧ decode cX12_plays 35 = .ok (.aload_n 0, 1) ∧ decode cX12_plays 36 = .ok (.iconst 0, 1) ∧ decode cX12_plays 37 = .ok (.putfield 420, 3) ∧ True := dkl_ok (c := cX12_plays) [(.iconst 0, 1), (.putfield 411, 3), (.aload_n 0, 1), (.iconst 0, 1), (.putfield 423, 3), (.aload_n 0, 1), (.iconst 0, 1), (.putfield 420, 3)] 26 (by decide +kernel)
theorem dX12_plays_26 : decode cX12_plays 26 = .ok (.iconst 0, 1) := eX12_plays_26.1
theorem dX12_plays_27 : decode cX12_plays 27 = .ok (.putfield 411, 3) := eX12_plays_26.2.1
theorem dX12_plays_30 : decode cX12_plays 30 = .ok (.aload_n 0, 1) := eX12_plays_26.2.2.1
theorem dX12_plays_31 : decode cX12_plays 31 = .ok (.iconst 0, 1) := eX12_plays_26.2.2.2.1
theorem dX12_plays_32 : decode cX12_plays 32 = .ok (.putfield 423, 3) := eX12_plays_26.2.2.2.2.1
theorem dX12_plays_35 : decode cX12_plays 35 = .ok (.aload_n 0, 1) := eX12_plays_26.2.2.2.2.2.1
theorem dX12_plays_36 : decode cX12_plays 36 = .ok (.iconst 0, 1) := eX12_plays_26.2.2.2.2.2.2.1
theorem dX12_plays_37 : decode cX12_plays 37 = .ok (.putfield 420, 3) := eX12_plays_26.2.2.2.2.2.2.2.1
theorem eX12_plays_40 : decode cX12_plays 40 = .ok (.aload_n 0, 1) ∧ decode cX12_plays 41 = .ok (.iconst 0, 1) ∧ decode cX12_plays 42 = .ok (.aload_n 0, 1) ∧ decode cX12_plays 43 = .ok (.getfield 35, 3) ∧ decode cX12_plays 46 = .ok (.sipush 655, 3) ∧ decode cX12_plays 49 = .ok (.iaload, 1) ∧ decode cX12_plays 50 = .ok (.invokevirtual 435, 3) ∧ decode cX12_plays 53 = .ok (.return_, 1) ∧ True := dkl_ok (c := cX12_plays) [(.aload_n 0, 1), (.iconst 0, 1), (.aload_n 0, 1), (.getfield 35, 3), (.sipush 655, 3), (.iaload, 1), (.invokevirtual 435, 3), (.return_, 1)] 40 (by decide +kernel)
theorem dX12_plays_40 : decode cX12_plays 40 = .ok (.aload_n 0, 1) := eX12_plays_40.1
theorem dX12_plays_41 : decode cX12_plays 41 = .ok (.iconst 0, 1) := eX12_plays_40.2.1
theorem dX12_plays_42 : decode cX12_plays 42 = .ok (.aload_n 0, 1) := eX12_plays_40.2.2.1
theorem dX12_plays_43 : decode cX12_plays 43 = .ok (.getfield 35, 3) := eX12_plays_40.2.2.2.1
theorem dX12_plays_46 : decode cX12_plays 46 = .ok (.sipush 655, 3) := eX12_plays_40.2.2.2.2.1
theorem dX12_plays_49 : decode cX12_plays 49 = .ok (.iaload, 1) := eX12_plays_40.2.2.2.2.2.1
theorem dX12_plays_50 : decode cX12_plays 50 = .ok (.invokevirtual 435, 3) := eX12_plays_40.2.2.2.2.2.2.1
theorem dX12_plays_53 : decode cX12_plays 53 = .ok (.return_, 1) := eX12_plays_40.2.2.2.2.2.2.2.1
theorem eX12_play_0 : decode cX12_play 0 = .ok (.aload_n 0, 1) ∧ decode cX12_play 1 = .ok (.iconst 0, 1) ∧ decode cX12_play 2 = .ok (.putfield 59, 3) ∧ decode cX12_play 5 = .ok (.aload_n 0, 1) ∧ decode cX12_play 6 = .ok (.iconst 0, 1) ∧ decode cX12_play 7 = .ok (.putfield 62, 3) ∧ decode cX12_play 10 = .ok (.iload_n 1, 1) ∧ decode cX12_play 11 = .ok (.i2l, 1) ∧ True := dkl_ok (c := cX12_play) [(.aload_n 0, 1), (.iconst 0, 1), (.putfield 59, 3), (.aload_n 0, 1), (.iconst 0, 1), (.putfield 62, 3), (.iload_n 1, 1), (.i2l, 1)] 0 (by decide +kernel)
theorem dX12_play_0 : decode cX12_play 0 = .ok (.aload_n 0, 1) := eX12_play_0.1
theorem dX12_play_1 : decode cX12_play 1 = .ok (.iconst 0, 1) := eX12_play_0.2.1
theorem dX12_play_2 : decode cX12_play 2 = .ok (.putfield 59, 3) := eX12_play_0.2.2.1
theorem dX12_play_5 : decode cX12_play 5 = .ok (.aload_n 0, 1) := eX12_play_0.2.2.2.1
theorem dX12_play_6 : decode cX12_play 6 = .ok (.iconst 0, 1) := eX12_play_0.2.2.2.2.1
theorem dX12_play_7 : decode cX12_play 7 = .ok (.putfield 62, 3) := eX12_play_0.2.2.2.2.2.1
theorem dX12_play_10 : decode cX12_play 10 = .ok (.iload_n 1, 1) := eX12_play_0.2.2.2.2.2.2.1
theorem dX12_play_11 : decode cX12_play 11 = .ok (.i2l, 1) := eX12_play_0.2.2.2.2.2.2.2.1
theorem eX12_play_12 : decode cX12_play 12 = .ok (.lconst 0, 1) ∧ decode cX12_play 13 = .ok (.ldc2_w 441, 3) ∧ decode cX12_play 16 = .ok (.invokestatic 94, 3) ∧ decode cX12_play 19 = .ok (.ifCond .ne 9, 3) ∧ decode cX12_play 22 = .ok (.aload_n 0, 1) ∧ decode cX12_play 23 = .ok (.iconst 5, 1) ∧ decode cX12_play 24 = .ok (.invokevirtual 284, 3) ∧ decode cX12_play 27 = .ok (.ireturn, 1) ∧ True := dkl_ok (c := cX12_play) [(.lconst 0, 1), (.ldc2_w 441, 3), (.invokestatic 94, 3), (.ifCond .ne 9, 3), (.aload_n 0, 1), (.iconst 5, 1), (.invokevirtual 284, 3), (.ireturn, 1)] 12 (by decide +kernel)
theorem dX12_play_12 : decode cX12_play 12 = .ok (.lconst 0, 1) := eX12_play_12.1
theorem dX12_play_13 : decode cX12_play 13 = .ok (.ldc2_w 441, 3) := eX12_play_12.2.1
theorem dX12_play_16 : decode cX12_play 16 = .ok (.invokestatic 94, 3) := eX12_play_12.2.2.1
theorem dX12_play_19 : decode cX12_play 19 = .ok (.ifCond .ne 9, 3) := eX12_play_12.2.2.2.1
theorem dX12_play_22 : decode cX12_play 22 = .ok (.aload_n 0, 1) := eX12_play_12.2.2.2.2.1
theorem dX12_play_23 : decode cX12_play 23 = .ok (.iconst 5, 1) := eX12_play_12.2.2.2.2.2.1
theorem dX12_play_24 : decode cX12_play 24 = .ok (.invokevirtual 284, 3) := eX12_play_12.2.2.2.2.2.2.1
theorem dX12_play_27 : decode cX12_play 27 = .ok (.ireturn, 1) := eX12_play_12.2.2.2.2.2.2.2.1
theorem eX12_play_28 : decode cX12_play 28 = .ok (.aload_n 0, 1) ∧ decode cX12_play 29 = .ok (.getfield 35, 3) ∧ decode cX12_play 32 = .ok (.sipush 654, 3) ∧ decode cX12_play 35 = .ok (.iaload, 1) ∧ decode cX12_play 36 = .ok (.ifCond .ne 10, 3) ∧ decode cX12_play 39 = .ok (.aload_n 0, 1) ∧ decode cX12_play 40 = .ok (.bipush 8, 2) ∧ decode cX12_play 42 = .ok (.invokevirtual 284, 3) ∧ True := dkl_ok (c := cX12_play) [(.aload_n 0, 1), (.getfield 35, 3), (.sipush 654, 3), (.iaload, 1), (.ifCond .ne 10, 3), (.aload_n 0, 1), (.bipush 8, 2), (.invokevirtual 284, 3)] 28 (by decide +kernel)
theorem dX12_play_28 : decode cX12_play 28 = .ok (.aload_n 0, 1) := eX12_play_28.1
theorem dX12_play_29 : decode cX12_play 29 = .ok (.getfield 35, 3) := eX12_play_28.2.1
theorem dX12_play_32 : decode cX12_play 32 = .ok (.sipush 654, 3) := eX12_play_28.2.2.1
theorem dX12_play_35 : decode cX12_play 35 = .ok (.iaload, 1) := eX12_play_28.2.2.2.1
theorem dX12_play_36 : decode cX12_play 36 = .ok (.ifCond .ne 10, 3) := eX12_play_28.2.2.2.2.1
theorem dX12_play_39 : decode cX12_play 39 = .ok (.aload_n 0, 1) := eX12_play_28.2.2.2.2.2.1
theorem dX12_play_40 : decode cX12_play 40 = .ok (.bipush 8, 2) := eX12_play_28.2.2.2.2.2.2.1
theorem dX12_play_42 : decode cX12_play 42 = .ok (.invokevirtual 284, 3) := eX12_play_28.2.2.2.2.2.2.2.1
theorem eX12_play_45 : decode cX12_play 45 = .ok (.ireturn, 1) ∧ decode cX12_play 46 = .ok (.aload_n 0, 1) ∧ decode cX12_play 47 = .ok (.iload_n 1, 1) ∧ decode cX12_play 48 = .ok (.invokevirtual 443, 3) ∧ decode cX12_play 51 = .ok (.aload_n 0, 1) ∧ decode cX12_play 52 = .ok (.getfield 56, 3) ∧ decode cX12_play 55 = .ok (.iconst 0, 1) ∧ decode cX12_play 56 = .ok (.aload_n 0, 1) ∧ True := dkl_ok (c := cX12_play) [(.ireturn, 1), (.aload_n 0, 1), (.iload_n 1, 1), (.invokevirtual 443, 3), (.aload_n 0, 1), (.getfield 56, 3), (.iconst 0, 1), (.aload_n 0, 1)] 45 (by decide +kernel)
theorem dX12_play_45 : decode cX12_play 45 = .ok (.ireturn, 1) := eX12_play_45.1
theorem dX12_play_46 : decode cX12_play 46 = .ok (.aload_n 0, 1) := eX12_play_45.2.1
theorem dX12_play_47 : decode cX12_play 47 = .ok (.iload_n 1, 1) := eX12_play_45.2.2.1
theorem dX12_play_48 : decode cX12_play 48 = .ok (.invokevirtual 443, 3) := eX12_play_45.2.2.2.1
theorem dX12_play_51 : decode cX12_play 51 = .ok (.aload_n 0, 1) := eX12_play_45.2.2.2.2.1
theorem dX12_play_52 : decode cX12_play 52 = .ok (.getfield 56, 3) := eX12_play_45.2.2.2.2.2.1
theorem dX12_play_55 : decode cX12_play 55 = .ok (.iconst 0, 1) := eX12_play_45.2.2.2.2.2.2.1
theorem dX12_play_56 : decode cX12_play 56 = .ok (.aload_n 0, 1) := eX12_play_45.2.2.2.2.2.2.2.1
theorem eX12_play_57 : decode cX12_play 57 = .ok (.getfield 426, 3) ∧ decode cX12_play 60 = .ok (.iastore, 1) ∧ decode cX12_play 61 = .ok (.aload_n 0, 1) ∧ decode cX12_play 62 = .ok (.getfield 56, 3) ∧ decode cX12_play 65 = .ok (.iconst 1, 1) ∧ decode cX12_play 66 = .ok (.aload_n 0, 1) ∧ decode cX12_play 67 = .ok (.getfield 405, 3) ∧ decode cX12_play 70 = .ok (.iastore, 1) ∧ True := dkl_ok (c := cX12_play) [(.getfield 426, 3), (.iastore, 1), (.aload_n 0, 1), (.getfield 56, 3), (.iconst 1, 1), (.aload_n 0, 1), (.getfield 405, 3), (.iastore, 1)] 57 (by decide +kernel)
theorem dX12_play_57 : decode cX12_play 57 = .ok (.getfield 426, 3) := eX12_play_57.1
theorem dX12_play_60 : decode cX12_play 60 = .ok (.iastore, 1) := eX12_play_57.2.1
theorem dX12_play_61 : decode cX12_play 61 = .ok (.aload_n 0, 1) := eX12_play_57.2.2.1
theorem dX12_play_62 : decode cX12_play 62 = .ok (.getfield 56, 3) := eX12_play_57.2.2.2.1
theorem dX12_play_65 : decode cX12_play 65 = .ok (.iconst 1, 1) := eX12_play_57.2.2.2.2.1
theorem dX12_play_66 : decode cX12_play 66 = .ok (.aload_n 0, 1) := eX12_play_57.2.2.2.2.2.1
theorem dX12_play_67 : decode cX12_play 67 = .ok (.getfield 405, 3) := eX12_play_57.2.2.2.2.2.2.1
theorem dX12_play_70 : decode cX12_play 70 = .ok (.iastore, 1) := eX12_play_57.2.2.2.2.2.2.2.1
theorem eX12_play_71 : decode cX12_play 71 = .ok (.aload_n 0, 1) ∧ decode cX12_play 72 = .ok (.getfield 56, 3) ∧ decode cX12_play 75 = .ok (.iconst 2, 1) ∧ decode cX12_play 76 = .ok (.aload_n 0, 1) ∧ decode cX12_play 77 = .ok (.getfield 408, 3) ∧ decode cX12_play 80 = .ok (.iastore, 1) ∧ decode cX12_play 81 = .ok (.aload_n 0, 1) ∧ decode cX12_play 82 = .ok (.getfield 56, 3) ∧ True := dkl_ok (c := cX12_play) [(.aload_n 0, 1), (.getfield 56, 3), (.iconst 2, 1), (.aload_n 0, 1), (.getfield 408, 3), (.iastore, 1), (.aload_n 0, 1), (.getfield 56, 3)] 71 (by decide +kernel)
theorem dX12_play_71 : decode cX12_play 71 = .ok (.aload_n 0, 1) := eX12_play_71.1
theorem dX12_play_72 : decode cX12_play 72 = .ok (.getfield 56, 3) := eX12_play_71.2.1
theorem dX12_play_75 : decode cX12_play 75 = .ok (.iconst 2, 1) := eX12_play_71.2.2.1
theorem dX12_play_76 : decode cX12_play 76 = .ok (.aload_n 0, 1) := eX12_play_71.2.2.2.1
theorem dX12_play_77 : decode cX12_play 77 = .ok (.getfield 408, 3) := eX12_play_71.2.2.2.2.1
theorem dX12_play_80 : decode cX12_play 80 = .ok (.iastore, 1) := eX12_play_71.2.2.2.2.2.1
theorem dX12_play_81 : decode cX12_play 81 = .ok (.aload_n 0, 1) := eX12_play_71.2.2.2.2.2.2.1
theorem dX12_play_82 : decode cX12_play 82 = .ok (.getfield 56, 3) := eX12_play_71.2.2.2.2.2.2.2.1
theorem eX12_play_85 : decode cX12_play 85 = .ok (.iconst 3, 1) ∧ decode cX12_play 86 = .ok (.aload_n 0, 1) ∧ decode cX12_play 87 = .ok (.getfield 411, 3) ∧ decode cX12_play 90 = .ok (.iastore, 1) ∧ decode cX12_play 91 = .ok (.aload_n 0, 1) ∧ decode cX12_play 92 = .ok (.getfield 56, 3) ∧ decode cX12_play 95 = .ok (.iconst 4, 1) ∧ decode cX12_play 96 = .ok (.aload_n 0, 1) ∧ True := dkl_ok (c := cX12_play) [(.iconst 3, 1), (.aload_n 0, 1), (.getfield 411, 3), (.iastore, 1), (.aload_n 0, 1), (.getfield 56, 3), (.iconst 4, 1), (.aload_n 0, 1)] 85 (by decide +kernel)
theorem dX12_play_85 : decode cX12_play 85 = .ok (.iconst 3, 1) := eX12_play_85.1
theorem dX12_play_86 : decode cX12_play 86 = .ok (.aload_n 0, 1) := eX12_play_85.2.1
theorem dX12_play_87 : decode cX12_play 87 = .ok (.getfield 411, 3) := eX12_play_85.2.2.1
theorem dX12_play_90 : decode cX12_play 90 = .ok (.iastore, 1) := eX12_play_85.2.2.2.1
theorem dX12_play_91 : decode cX12_play 91 = .ok (.aload_n 0, 1) := eX12_play_85.2.2.2.2.1
theorem dX12_play_92 : decode cX12_play 92 = .ok (.getfield 56, 3) := eX12_play_85.2.2.2.2.2.1
theorem dX12_play_95 : decode cX12_play 95 = .ok (.iconst 4, 1) := eX12_play_85.2.2.2.2.2.2.1
theorem dX12_play_96 : decode cX12_play 96 = .ok (.aload_n 0, 1) := eX12_play_85.2.2.2.2.2.2.2.1
theorem eX12_play_97 : decode cX12_play 97 = .ok (.getfield 423, 3) ∧ decode cX12_play 100 = .ok (.iastore, 1) ∧ decode cX12_play 101 = .ok (.aload_n 0, 1) ∧ decode cX12_play 102 = .ok (.iconst 1, 1) ∧ decode cX12_play 103 = .ok (.putfield 446, 3) ∧ decode cX12_play 106 = .ok (.aload_n 0, 1) ∧ decode cX12_play 107 = .ok (.getfield 417, 3) ∧ decode cX12_play 110 = .ok (.ireturn, 1) ∧ True := dkl_ok (c := cX12_play) [(.getfield 423, 3), (.iastore, 1), (.aload_n 0, 1), (.iconst 1, 1), (.putfield 446, 3), (.aload_n 0, 1), (.getfield 417, 3), (.ireturn, 1)] 97 (by decide +kernel)
theorem dX12_play_97 : decode cX12_play 97 = .ok (.getfield 423, 3) := eX12_play_97.1
theorem dX12_play_100 : decode cX12_play 100 = .ok (.iastore, 1) := eX12_play_97.2.1
theorem dX12_play_101 : decode cX12_play 101 = .ok (.aload_n 0, 1) := eX12_play_97.2.2.1
theorem dX12_play_102 : decode cX12_play 102 = .ok (.iconst 1, 1) := eX12_play_97.2.2.2.1
theorem dX12_play_103 : decode cX12_play 103 = .ok (.putfield 446, 3) := eX12_play_97.2.2.2.2.1
theorem dX12_play_106 : decode cX12_play 106 = .ok (.aload_n 0, 1) := eX12_play_97.2.2.2.2.2.1
theorem dX12_play_107 : decode cX12_play 107 = .ok (.getfield 417, 3) := eX12_play_97.2.2.2.2.2.2.1
theorem dX12_play_110 : decode cX12_play 110 = .ok (.ireturn, 1) := eX12_play_97.2.2.2.2.2.2.2.1
theorem eX12_played_0 : decode cX12_played 0 = .ok (.aload_n 0, 1) ∧ decode cX12_played 1 = .ok (.iconst 0, 1) ∧ decode cX12_played 2 = .ok (.putfield 59, 3) ∧ decode cX12_played 5 = .ok (.aload_n 0, 1) ∧ decode cX12_played 6 = .ok (.iconst 0, 1) ∧ decode cX12_played 7 = .ok (.putfield 62, 3) ∧ decode cX12_played 10 = .ok (.iload_n 1, 1) ∧ decode cX12_played 11 = .ok (.i2l, 1) ∧ True := dkl_ok (c := cX12_played) [(.aload_n 0, 1), (.iconst 0, 1), (.putfield 59, 3), (.aload_n 0, 1), (.iconst 0, 1), (.putfield 62, 3), (.iload_n 1, 1), (.i2l, 1)] 0 (by decide +kernel)
theorem dX12_played_0 : decode cX12_played 0 = .ok (.aload_n 0, 1) := eX12_played_0.1
theorem dX12_played_1 : decode cX12_played 1 = .ok (.iconst 0, 1) := eX12_played_0.2.1
theorem dX12_played_2 : decode cX12_played 2 = .ok (.putfield 59, 3) := eX12_played_0.2.2.1
theorem dX12_played_5 : decode cX12_played 5 = .ok (.aload_n 0, 1) := eX12_played_0.2.2.2.1
theorem dX12_played_6 : decode cX12_played 6 = .ok (.iconst 0, 1) := eX12_played_0.2.2.2.2.1
theorem dX12_played_7 : decode cX12_played 7 = .ok (.putfield 62, 3) := eX12_played_0.2.2.2.2.2.1
theorem dX12_played_10 : decode cX12_played 10 = .ok (.iload_n 1, 1) := eX12_played_0.2.2.2.2.2.2.1
theorem dX12_played_11 : decode cX12_played 11 = .ok (.i2l, 1) := eX12_played_0.2.2.2.2.2.2.2.1
theorem eX12_played_12 : decode cX12_played 12 = .ok (.lconst 0, 1) ∧ decode cX12_played 13 = .ok (.ldc2_w 393, 3) ∧ decode cX12_played 16 = .ok (.invokestatic 94, 3) ∧ decode cX12_played 19 = .ok (.ifCond .ne 9, 3) ∧ decode cX12_played 22 = .ok (.aload_n 0, 1) ∧ decode cX12_played 23 = .ok (.iconst 5, 1) ∧ decode cX12_played 24 = .ok (.invokevirtual 284, 3) ∧ decode cX12_played 27 = .ok (.ireturn, 1) ∧ True := dkl_ok (c := cX12_played) [(.lconst 0, 1), (.ldc2_w 393, 3), (.invokestatic 94, 3), (.ifCond .ne 9, 3), (.aload_n 0, 1), (.iconst 5, 1), (.invokevirtual 284, 3), (.ireturn, 1)] 12 (by decide +kernel)
theorem dX12_played_12 : decode cX12_played 12 = .ok (.lconst 0, 1) := eX12_played_12.1
theorem dX12_played_13 : decode cX12_played 13 = .ok (.ldc2_w 393, 3) := eX12_played_12.2.1
theorem dX12_played_16 : decode cX12_played 16 = .ok (.invokestatic 94, 3) := eX12_played_12.2.2.1
theorem dX12_played_19 : decode cX12_played 19 = .ok (.ifCond .ne 9, 3) := eX12_played_12.2.2.2.1
theorem dX12_played_22 : decode cX12_played 22 = .ok (.aload_n 0, 1) := eX12_played_12.2.2.2.2.1
theorem dX12_played_23 : decode cX12_played 23 = .ok (.iconst 5, 1) := eX12_played_12.2.2.2.2.2.1
theorem dX12_played_24 : decode cX12_played 24 = .ok (.invokevirtual 284, 3) := eX12_played_12.2.2.2.2.2.2.1
theorem dX12_played_27 : decode cX12_played 27 = .ok (.ireturn, 1) := eX12_played_12.2.2.2.2.2.2.2.1
theorem eX12_played_28 : decode cX12_played 28 = .ok (.aload_n 0, 1) ∧ decode cX12_played 29 = .ok (.getfield 446, 3) ∧ decode cX12_played 32 = .ok (.ifCond .eq 12, 3) ∧ decode cX12_played 35 = .ok (.aload_n 0, 1) ∧ decode cX12_played 36 = .ok (.getfield 56, 3) ∧ decode cX12_played 39 = .ok (.iload_n 1, 1) ∧ decode cX12_played 40 = .ok (.iaload, 1) ∧ decode cX12_played 41 = .ok (.goto 9, 3) ∧ True := dkl_ok (c := cX12_played) [(.aload_n 0, 1), (.getfield 446, 3), (.ifCond .eq 12, 3), (.aload_n 0, 1), (.getfield 56, 3), (.iload_n 1, 1), (.iaload, 1), (.goto 9, 3)] 28 (by decide +kernel)
theorem dX12_played_28 : decode cX12_played 28 = .ok (.aload_n 0, 1) := eX12_played_28.1
theorem dX12_played_29 : decode cX12_played 29 = .ok (.getfield 446, 3) := eX12_played_28.2.1
theorem dX12_played_32 : decode cX12_played 32 = .ok (.ifCond .eq 12, 3) := eX12_played_28.2.2.1
theorem dX12_played_35 : decode cX12_played 35 = .ok (.aload_n 0, 1) := eX12_played_28.2.2.2.1
theorem dX12_played_36 : decode cX12_played 36 = .ok (.getfield 56, 3) := eX12_played_28.2.2.2.2.1
theorem dX12_played_39 : decode cX12_played 39 = .ok (.iload_n 1, 1) := eX12_played_28.2.2.2.2.2.1
theorem dX12_played_40 : decode cX12_played 40 = .ok (.iaload, 1) := eX12_played_28.2.2.2.2.2.2.1
theorem dX12_played_41 : decode cX12_played 41 = .ok (.goto 9, 3) := eX12_played_28.2.2.2.2.2.2.2.1
theorem eX12_played_44 : decode cX12_played 44 = .ok (.aload_n 0, 1) ∧ decode cX12_played 45 = .ok (.bipush 8, 2) ∧ decode cX12_played 47 = .ok (.invokevirtual 284, 3) ∧ decode cX12_played 50 = .ok (.ireturn, 1) ∧ True := dkl_ok (c := cX12_played) [(.aload_n 0, 1), (.bipush 8, 2), (.invokevirtual 284, 3), (.ireturn, 1)] 44 (by decide +kernel)
theorem dX12_played_44 : decode cX12_played 44 = .ok (.aload_n 0, 1) := eX12_played_44.1
theorem dX12_played_45 : decode cX12_played 45 = .ok (.bipush 8, 2) := eX12_played_44.2.1
theorem dX12_played_47 : decode cX12_played 47 = .ok (.invokevirtual 284, 3) := eX12_played_44.2.2.1
theorem dX12_played_50 : decode cX12_played 50 = .ok (.ireturn, 1) := eX12_played_44.2.2.2.1
theorem eX12_tries_0 : decode cX12_tries 0 = .ok (.aload_n 0, 1) ∧ decode cX12_tries 1 = .ok (.iconst 0, 1) ∧ decode cX12_tries 2 = .ok (.putfield 59, 3) ∧ decode cX12_tries 5 = .ok (.aload_n 0, 1) ∧ decode cX12_tries 6 = .ok (.iconst 0, 1) ∧ decode cX12_tries 7 = .ok (.putfield 62, 3) ∧ decode cX12_tries 10 = .ok (.aload_n 0, 1) ∧ decode cX12_tries 11 = .ok (.iload_n 1, 1) ∧ True := dkl_ok (c := cX12_tries) [(.aload_n 0, 1), (.iconst 0, 1), (.putfield 59, 3), (.aload_n 0, 1), (.iconst 0, 1), (.putfield 62, 3), (.aload_n 0, 1), (.iload_n 1, 1)] 0 (by decide +kernel)
theorem dX12_tries_0 : decode cX12_tries 0 = .ok (.aload_n 0, 1) := eX12_tries_0.1
theorem dX12_tries_1 : decode cX12_tries 1 = .ok (.iconst 0, 1) := eX12_tries_0.2.1
theorem dX12_tries_2 : decode cX12_tries 2 = .ok (.putfield 59, 3) := eX12_tries_0.2.2.1
theorem dX12_tries_5 : decode cX12_tries 5 = .ok (.aload_n 0, 1) := eX12_tries_0.2.2.2.1
theorem dX12_tries_6 : decode cX12_tries 6 = .ok (.iconst 0, 1) := eX12_tries_0.2.2.2.2.1
theorem dX12_tries_7 : decode cX12_tries 7 = .ok (.putfield 62, 3) := eX12_tries_0.2.2.2.2.2.1
theorem dX12_tries_10 : decode cX12_tries 10 = .ok (.aload_n 0, 1) := eX12_tries_0.2.2.2.2.2.2.1
theorem dX12_tries_11 : decode cX12_tries 11 = .ok (.iload_n 1, 1) := eX12_tries_0.2.2.2.2.2.2.2.1
theorem eX12_tries_12 : decode cX12_tries 12 = .ok (.invokevirtual 290, 3) ∧ decode cX12_tries 15 = .ok (.ifCond .ne 9, 3) ∧ decode cX12_tries 18 = .ok (.aload_n 0, 1) ∧ decode cX12_tries 19 = .ok (.iconst 2, 1) ∧ decode cX12_tries 20 = .ok (.invokevirtual 74, 3) ∧ decode cX12_tries 23 = .ok (.ireturn, 1) ∧ decode cX12_tries 24 = .ok (.iload_n 3, 1) ∧ decode cX12_tries 25 = .ok (.i2l, 1) ∧ True := dkl_ok (c := cX12_tries) [(.invokevirtual 290, 3), (.ifCond .ne 9, 3), (.aload_n 0, 1), (.iconst 2, 1), (.invokevirtual 74, 3), (.ireturn, 1), (.iload_n 3, 1), (.i2l, 1)] 12 (by decide +kernel)
theorem dX12_tries_12 : decode cX12_tries 12 = .ok (.invokevirtual 290, 3) := eX12_tries_12.1
theorem dX12_tries_15 : decode cX12_tries 15 = .ok (.ifCond .ne 9, 3) := eX12_tries_12.2.1
theorem dX12_tries_18 : decode cX12_tries 18 = .ok (.aload_n 0, 1) := eX12_tries_12.2.2.1
theorem dX12_tries_19 : decode cX12_tries 19 = .ok (.iconst 2, 1) := eX12_tries_12.2.2.2.1
theorem dX12_tries_20 : decode cX12_tries 20 = .ok (.invokevirtual 74, 3) := eX12_tries_12.2.2.2.2.1
theorem dX12_tries_23 : decode cX12_tries 23 = .ok (.ireturn, 1) := eX12_tries_12.2.2.2.2.2.1
theorem dX12_tries_24 : decode cX12_tries 24 = .ok (.iload_n 3, 1) := eX12_tries_12.2.2.2.2.2.2.1
theorem dX12_tries_25 : decode cX12_tries 25 = .ok (.i2l, 1) := eX12_tries_12.2.2.2.2.2.2.2.1
theorem eX12_tries_26 : decode cX12_tries 26 = .ok (.lconst 1, 1) ∧ decode cX12_tries 27 = .ok (.ldc2_w 449, 3) ∧ decode cX12_tries 30 = .ok (.invokestatic 94, 3) ∧ decode cX12_tries 33 = .ok (.ifCond .eq 18, 3) ∧ decode cX12_tries 36 = .ok (.iload_n 2, 1) ∧ decode cX12_tries 37 = .ok (.i2l, 1) ∧ decode cX12_tries 38 = .ok (.lconst 0, 1) ∧ decode cX12_tries 39 = .ok (.sipush 10000, 3) ∧ True := dkl_ok (c := cX12_tries) [(.lconst 1, 1), (.ldc2_w 449, 3), (.invokestatic 94, 3), (.ifCond .eq 18, 3), (.iload_n 2, 1), (.i2l, 1), (.lconst 0, 1), (.sipush 10000, 3)] 26 (by decide +kernel)
theorem dX12_tries_26 : decode cX12_tries 26 = .ok (.lconst 1, 1) := eX12_tries_26.1
theorem dX12_tries_27 : decode cX12_tries 27 = .ok (.ldc2_w 449, 3) := eX12_tries_26.2.1
theorem dX12_tries_30 : decode cX12_tries 30 = .ok (.invokestatic 94, 3) := eX12_tries_26.2.2.1
theorem dX12_tries_33 : decode cX12_tries 33 = .ok (.ifCond .eq 18, 3) := eX12_tries_26.2.2.2.1
theorem dX12_tries_36 : decode cX12_tries 36 = .ok (.iload_n 2, 1) := eX12_tries_26.2.2.2.2.1
theorem dX12_tries_37 : decode cX12_tries 37 = .ok (.i2l, 1) := eX12_tries_26.2.2.2.2.2.1
theorem dX12_tries_38 : decode cX12_tries 38 = .ok (.lconst 0, 1) := eX12_tries_26.2.2.2.2.2.2.1
theorem dX12_tries_39 : decode cX12_tries 39 = .ok (.sipush 10000, 3) := eX12_tries_26.2.2.2.2.2.2.2.1
theorem eX12_tries_42 : decode cX12_tries 42 = .ok (.iload_n 3, 1) ∧ decode cX12_tries 43 = .ok (.isub, 1) ∧ decode cX12_tries 44 = .ok (.i2l, 1) ∧ decode cX12_tries 45 = .ok (.invokestatic 94, 3) ∧ decode cX12_tries 48 = .ok (.ifCond .ne 9, 3) ∧ decode cX12_tries 51 = .ok (.aload_n 0, 1) ∧ decode cX12_tries 52 = .ok (.iconst 5, 1) ∧ decode cX12_tries 53 = .ok (.invokevirtual 74, 3) ∧ True := dkl_ok (c := cX12_tries) [(.iload_n 3, 1), (.isub, 1), (.i2l, 1), (.invokestatic 94, 3), (.ifCond .ne 9, 3), (.aload_n 0, 1), (.iconst 5, 1), (.invokevirtual 74, 3)] 42 (by decide +kernel)
theorem dX12_tries_42 : decode cX12_tries 42 = .ok (.iload_n 3, 1) := eX12_tries_42.1
theorem dX12_tries_43 : decode cX12_tries 43 = .ok (.isub, 1) := eX12_tries_42.2.1
theorem dX12_tries_44 : decode cX12_tries 44 = .ok (.i2l, 1) := eX12_tries_42.2.2.1
theorem dX12_tries_45 : decode cX12_tries 45 = .ok (.invokestatic 94, 3) := eX12_tries_42.2.2.2.1
theorem dX12_tries_48 : decode cX12_tries 48 = .ok (.ifCond .ne 9, 3) := eX12_tries_42.2.2.2.2.1
theorem dX12_tries_51 : decode cX12_tries 51 = .ok (.aload_n 0, 1) := eX12_tries_42.2.2.2.2.2.1
theorem dX12_tries_52 : decode cX12_tries 52 = .ok (.iconst 5, 1) := eX12_tries_42.2.2.2.2.2.2.1
theorem dX12_tries_53 : decode cX12_tries 53 = .ok (.invokevirtual 74, 3) := eX12_tries_42.2.2.2.2.2.2.2.1
theorem eX12_tries_56 : decode cX12_tries 56 = .ok (.ireturn, 1) ∧ decode cX12_tries 57 = .ok (.aload_n 0, 1) ∧ decode cX12_tries 58 = .ok (.getfield 35, 3) ∧ decode cX12_tries 61 = .ok (.sipush 654, 3) ∧ decode cX12_tries 64 = .ok (.iaload, 1) ∧ decode cX12_tries 65 = .ok (.ifCond .ne 10, 3) ∧ decode cX12_tries 68 = .ok (.aload_n 0, 1) ∧ decode cX12_tries 69 = .ok (.bipush 8, 2) ∧ True := dkl_ok (c := cX12_tries) [(.ireturn, 1), (.aload_n 0, 1), (.getfield 35, 3), (.sipush 654, 3), (.iaload, 1), (.ifCond .ne 10, 3), (.aload_n 0, 1), (.bipush 8, 2)] 56 (by decide +kernel)
theorem dX12_tries_56 : decode cX12_tries 56 = .ok (.ireturn, 1) := eX12_tries_56.1
theorem dX12_tries_57 : decode cX12_tries 57 = .ok (.aload_n 0, 1) := eX12_tries_56.2.1
theorem dX12_tries_58 : decode cX12_tries 58 = .ok (.getfield 35, 3) := eX12_tries_56.2.2.1
theorem dX12_tries_61 : decode cX12_tries 61 = .ok (.sipush 654, 3) := eX12_tries_56.2.2.2.1
theorem dX12_tries_64 : decode cX12_tries 64 = .ok (.iaload, 1) := eX12_tries_56.2.2.2.2.1
theorem dX12_tries_65 : decode cX12_tries 65 = .ok (.ifCond .ne 10, 3) := eX12_tries_56.2.2.2.2.2.1
theorem dX12_tries_68 : decode cX12_tries 68 = .ok (.aload_n 0, 1) := eX12_tries_56.2.2.2.2.2.2.1
theorem dX12_tries_69 : decode cX12_tries 69 = .ok (.bipush 8, 2) := eX12_tries_56.2.2.2.2.2.2.2.1
theorem eX12_tries_71 : decode cX12_tries 71 = .ok (.invokevirtual 74, 3) ∧ decode cX12_tries 74 = .ok (.ireturn, 1) ∧ decode cX12_tries 75 = .ok (.iconst 0, 1) ∧ decode cX12_tries 76 = .ok (.istore 5, 2) ∧ decode cX12_tries 78 = .ok (.iload 5, 2) ∧ decode cX12_tries 80 = .ok (.sipush 654, 3) ∧ decode cX12_tries 83 = .ok (.if_icmp .ge 23, 3) ∧ decode cX12_tries 86 = .ok (.aload_n 0, 1) ∧ True := dkl_ok (c := cX12_tries) [(.invokevirtual 74, 3), (.ireturn, 1), (.iconst 0, 1), (.istore 5, 2), (.iload 5, 2), (.sipush 654, 3), (.if_icmp .ge 23, 3), (.aload_n 0, 1)] 71 (by decide +kernel)
theorem dX12_tries_71 : decode cX12_tries 71 = .ok (.invokevirtual 74, 3) := eX12_tries_71.1
theorem dX12_tries_74 : decode cX12_tries 74 = .ok (.ireturn, 1) := eX12_tries_71.2.1
theorem dX12_tries_75 : decode cX12_tries 75 = .ok (.iconst 0, 1) := eX12_tries_71.2.2.1
theorem dX12_tries_76 : decode cX12_tries 76 = .ok (.istore 5, 2) := eX12_tries_71.2.2.2.1
theorem dX12_tries_78 : decode cX12_tries 78 = .ok (.iload 5, 2) := eX12_tries_71.2.2.2.2.1
theorem dX12_tries_80 : decode cX12_tries 80 = .ok (.sipush 654, 3) := eX12_tries_71.2.2.2.2.2.1
theorem dX12_tries_83 : decode cX12_tries 83 = .ok (.if_icmp .ge 23, 3) := eX12_tries_71.2.2.2.2.2.2.1
theorem dX12_tries_86 : decode cX12_tries 86 = .ok (.aload_n 0, 1) := eX12_tries_71.2.2.2.2.2.2.2.1
theorem eX12_tries_87 : decode cX12_tries 87 = .ok (.getfield 38, 3) ∧ decode cX12_tries 90 = .ok (.iload 5, 2) ∧ decode cX12_tries 92 = .ok (.aload_n 0, 1) ∧ decode cX12_tries 93 = .ok (.getfield 35, 3) ∧ decode cX12_tries 96 = .ok (.iload 5, 2) ∧ decode cX12_tries 98 = .ok (.iaload, 1) ∧ decode cX12_tries 99 = .ok (.iastore, 1) ∧ decode cX12_tries 100 = .ok (.iinc 5 1, 3) ∧ True := dkl_ok (c := cX12_tries) [(.getfield 38, 3), (.iload 5, 2), (.aload_n 0, 1), (.getfield 35, 3), (.iload 5, 2), (.iaload, 1), (.iastore, 1), (.iinc 5 1, 3)] 87 (by decide +kernel)
theorem dX12_tries_87 : decode cX12_tries 87 = .ok (.getfield 38, 3) := eX12_tries_87.1
theorem dX12_tries_90 : decode cX12_tries 90 = .ok (.iload 5, 2) := eX12_tries_87.2.1
theorem dX12_tries_92 : decode cX12_tries 92 = .ok (.aload_n 0, 1) := eX12_tries_87.2.2.1
theorem dX12_tries_93 : decode cX12_tries 93 = .ok (.getfield 35, 3) := eX12_tries_87.2.2.2.1
theorem dX12_tries_96 : decode cX12_tries 96 = .ok (.iload 5, 2) := eX12_tries_87.2.2.2.2.1
theorem dX12_tries_98 : decode cX12_tries 98 = .ok (.iaload, 1) := eX12_tries_87.2.2.2.2.2.1
theorem dX12_tries_99 : decode cX12_tries 99 = .ok (.iastore, 1) := eX12_tries_87.2.2.2.2.2.2.1
theorem dX12_tries_100 : decode cX12_tries 100 = .ok (.iinc 5 1, 3) := eX12_tries_87.2.2.2.2.2.2.2.1
theorem eX12_tries_103 : decode cX12_tries 103 = .ok (.goto (-25), 3) ∧ decode cX12_tries 106 = .ok (.iconst 0, 1) ∧ decode cX12_tries 107 = .ok (.istore 5, 2) ∧ decode cX12_tries 109 = .ok (.iconst 0, 1) ∧ decode cX12_tries 110 = .ok (.istore 6, 2) ∧ decode cX12_tries 112 = .ok (.iload 6, 2) ∧ decode cX12_tries 114 = .ok (.iload_n 3, 1) ∧ decode cX12_tries 115 = .ok (.if_icmp .ge 82, 3) ∧ True := dkl_ok (c := cX12_tries) [(.goto (-25), 3), (.iconst 0, 1), (.istore 5, 2), (.iconst 0, 1), (.istore 6, 2), (.iload 6, 2), (.iload_n 3, 1), (.if_icmp .ge 82, 3)] 103 (by decide +kernel)
theorem dX12_tries_103 : decode cX12_tries 103 = .ok (.goto (-25), 3) := eX12_tries_103.1
theorem dX12_tries_106 : decode cX12_tries 106 = .ok (.iconst 0, 1) := eX12_tries_103.2.1
theorem dX12_tries_107 : decode cX12_tries 107 = .ok (.istore 5, 2) := eX12_tries_103.2.2.1
theorem dX12_tries_109 : decode cX12_tries 109 = .ok (.iconst 0, 1) := eX12_tries_103.2.2.2.1
theorem dX12_tries_110 : decode cX12_tries 110 = .ok (.istore 6, 2) := eX12_tries_103.2.2.2.2.1
theorem dX12_tries_112 : decode cX12_tries 112 = .ok (.iload 6, 2) := eX12_tries_103.2.2.2.2.2.1
theorem dX12_tries_114 : decode cX12_tries 114 = .ok (.iload_n 3, 1) := eX12_tries_103.2.2.2.2.2.2.1
theorem dX12_tries_115 : decode cX12_tries 115 = .ok (.if_icmp .ge 82, 3) := eX12_tries_103.2.2.2.2.2.2.2.1
theorem eX12_tries_118 : decode cX12_tries 118 = .ok (.aload_n 0, 1) ∧ decode cX12_tries 119 = .ok (.iload_n 2, 1) ∧ decode cX12_tries 120 = .ok (.iload 6, 2) ∧ decode cX12_tries 122 = .ok (.iadd, 1) ∧ decode cX12_tries 123 = .ok (.invokevirtual 443, 3) ∧ decode cX12_tries 126 = .ok (.iload 5, 2) ∧ decode cX12_tries 128 = .ok (.iload 4, 2) ∧ decode cX12_tries 130 = .ok (.ifCond .eq 22, 3) ∧ True := dkl_ok (c := cX12_tries) [(.aload_n 0, 1), (.iload_n 2, 1), (.iload 6, 2), (.iadd, 1), (.invokevirtual 443, 3), (.iload 5, 2), (.iload 4, 2), (.ifCond .eq 22, 3)] 118 (by decide +kernel)
theorem dX12_tries_118 : decode cX12_tries 118 = .ok (.aload_n 0, 1) := eX12_tries_118.1
theorem dX12_tries_119 : decode cX12_tries 119 = .ok (.iload_n 2, 1) := eX12_tries_118.2.1
theorem dX12_tries_120 : decode cX12_tries 120 = .ok (.iload 6, 2) := eX12_tries_118.2.2.1
theorem dX12_tries_122 : decode cX12_tries 122 = .ok (.iadd, 1) := eX12_tries_118.2.2.2.1
theorem dX12_tries_123 : decode cX12_tries 123 = .ok (.invokevirtual 443, 3) := eX12_tries_118.2.2.2.2.1
theorem dX12_tries_126 : decode cX12_tries 126 = .ok (.iload 5, 2) := eX12_tries_118.2.2.2.2.2.1
theorem dX12_tries_128 : decode cX12_tries 128 = .ok (.iload 4, 2) := eX12_tries_118.2.2.2.2.2.2.1
theorem dX12_tries_130 : decode cX12_tries 130 = .ok (.ifCond .eq 22, 3) := eX12_tries_118.2.2.2.2.2.2.2.1
theorem eX12_tries_133 : decode cX12_tries 133 = .ok (.aload_n 0, 1) ∧ decode cX12_tries 134 = .ok (.getfield 35, 3) ∧ decode cX12_tries 137 = .ok (.bipush 8, 2) ∧ decode cX12_tries 139 = .ok (.iaload, 1) ∧ decode cX12_tries 140 = .ok (.iload_n 1, 1) ∧ decode cX12_tries 141 = .ok (.if_icmp .ne 7, 3) ∧ decode cX12_tries 144 = .ok (.iconst 1, 1) ∧ decode cX12_tries 145 = .ok (.goto 12, 3) ∧ True := dkl_ok (c := cX12_tries) [(.aload_n 0, 1), (.getfield 35, 3), (.bipush 8, 2), (.iaload, 1), (.iload_n 1, 1), (.if_icmp .ne 7, 3), (.iconst 1, 1), (.goto 12, 3)] 133 (by decide +kernel)
theorem dX12_tries_133 : decode cX12_tries 133 = .ok (.aload_n 0, 1) := eX12_tries_133.1
theorem dX12_tries_134 : decode cX12_tries 134 = .ok (.getfield 35, 3) := eX12_tries_133.2.1
theorem dX12_tries_137 : decode cX12_tries 137 = .ok (.bipush 8, 2) := eX12_tries_133.2.2.1
theorem dX12_tries_139 : decode cX12_tries 139 = .ok (.iaload, 1) := eX12_tries_133.2.2.2.1
theorem dX12_tries_140 : decode cX12_tries 140 = .ok (.iload_n 1, 1) := eX12_tries_133.2.2.2.2.1
theorem dX12_tries_141 : decode cX12_tries 141 = .ok (.if_icmp .ne 7, 3) := eX12_tries_133.2.2.2.2.2.1
theorem dX12_tries_144 : decode cX12_tries 144 = .ok (.iconst 1, 1) := eX12_tries_133.2.2.2.2.2.2.1
theorem dX12_tries_145 : decode cX12_tries 145 = .ok (.goto 12, 3) := eX12_tries_133.2.2.2.2.2.2.2.1
theorem eX12_tries_148 : decode cX12_tries 148 = .ok (.iconst 0, 1) ∧ decode cX12_tries 149 = .ok (.goto 8, 3) ∧ decode cX12_tries 152 = .ok (.aload_n 0, 1) ∧ decode cX12_tries 153 = .ok (.iload_n 1, 1) ∧ decode cX12_tries 154 = .ok (.invokevirtual 293, 3) ∧ decode cX12_tries 157 = .ok (.iadd, 1) ∧ decode cX12_tries 158 = .ok (.istore 5, 2) ∧ decode cX12_tries 160 = .ok (.iconst 0, 1) ∧ True := dkl_ok (c := cX12_tries) [(.iconst 0, 1), (.goto 8, 3), (.aload_n 0, 1), (.iload_n 1, 1), (.invokevirtual 293, 3), (.iadd, 1), (.istore 5, 2), (.iconst 0, 1)] 148 (by decide +kernel)
theorem dX12_tries_148 : decode cX12_tries 148 = .ok (.iconst 0, 1) := eX12_tries_148.1
theorem dX12_tries_149 : decode cX12_tries 149 = .ok (.goto 8, 3) := eX12_tries_148.2.1
theorem dX12_tries_152 : decode cX12_tries 152 = .ok (.aload_n 0, 1) := eX12_tries_148.2.2.1
theorem dX12_tries_153 : decode cX12_tries 153 = .ok (.iload_n 1, 1) := eX12_tries_148.2.2.2.1
theorem dX12_tries_154 : decode cX12_tries 154 = .ok (.invokevirtual 293, 3) := eX12_tries_148.2.2.2.2.1
theorem dX12_tries_157 : decode cX12_tries 157 = .ok (.iadd, 1) := eX12_tries_148.2.2.2.2.2.1
theorem dX12_tries_158 : decode cX12_tries 158 = .ok (.istore 5, 2) := eX12_tries_148.2.2.2.2.2.2.1
theorem dX12_tries_160 : decode cX12_tries 160 = .ok (.iconst 0, 1) := eX12_tries_148.2.2.2.2.2.2.2.1
theorem eX12_tries_161 : decode cX12_tries 161 = .ok (.istore 7, 2) ∧ decode cX12_tries 163 = .ok (.iload 7, 2) ∧ decode cX12_tries 165 = .ok (.sipush 654, 3) ∧ decode cX12_tries 168 = .ok (.if_icmp .ge 23, 3) ∧ decode cX12_tries 171 = .ok (.aload_n 0, 1) ∧ decode cX12_tries 172 = .ok (.getfield 35, 3) ∧ decode cX12_tries 175 = .ok (.iload 7, 2) ∧ decode cX12_tries 177 = .ok (.aload_n 0, 1) ∧ True := dkl_ok (c := cX12_tries) [(.istore 7, 2), (.iload 7, 2), (.sipush 654, 3), (.if_icmp .ge 23, 3), (.aload_n 0, 1), (.getfield 35, 3), (.iload 7, 2), (.aload_n 0, 1)] 161 (by decide +kernel)
theorem dX12_tries_161 : decode cX12_tries 161 = .ok (.istore 7, 2) := eX12_tries_161.1
theorem dX12_tries_163 : decode cX12_tries 163 = .ok (.iload 7, 2) := eX12_tries_161.2.1
theorem dX12_tries_165 : decode cX12_tries 165 = .ok (.sipush 654, 3) := eX12_tries_161.2.2.1
theorem dX12_tries_168 : decode cX12_tries 168 = .ok (.if_icmp .ge 23, 3) := eX12_tries_161.2.2.2.1
theorem dX12_tries_171 : decode cX12_tries 171 = .ok (.aload_n 0, 1) := eX12_tries_161.2.2.2.2.1
theorem dX12_tries_172 : decode cX12_tries 172 = .ok (.getfield 35, 3) := eX12_tries_161.2.2.2.2.2.1
theorem dX12_tries_175 : decode cX12_tries 175 = .ok (.iload 7, 2) := eX12_tries_161.2.2.2.2.2.2.1
theorem dX12_tries_177 : decode cX12_tries 177 = .ok (.aload_n 0, 1) := eX12_tries_161.2.2.2.2.2.2.2.1
theorem eX12_tries_178 : decode cX12_tries 178 = .ok (.getfield 38, 3) ∧ decode cX12_tries 181 = .ok (.iload 7, 2) ∧ decode cX12_tries 183 = .ok (.iaload, 1) ∧ decode cX12_tries 184 = .ok (.iastore, 1) ∧ decode cX12_tries 185 = .ok (.iinc 7 1, 3) ∧ decode cX12_tries 188 = .ok (.goto (-25), 3) ∧ decode cX12_tries 191 = .ok (.iinc 6 1, 3) ∧ decode cX12_tries 194 = .ok (.goto (-82), 3) ∧ True := dkl_ok (c := cX12_tries) [(.getfield 38, 3), (.iload 7, 2), (.iaload, 1), (.iastore, 1), (.iinc 7 1, 3), (.goto (-25), 3), (.iinc 6 1, 3), (.goto (-82), 3)] 178 (by decide +kernel)
theorem dX12_tries_178 : decode cX12_tries 178 = .ok (.getfield 38, 3) := eX12_tries_178.1
theorem dX12_tries_181 : decode cX12_tries 181 = .ok (.iload 7, 2) := eX12_tries_178.2.1
theorem dX12_tries_183 : decode cX12_tries 183 = .ok (.iaload, 1) := eX12_tries_178.2.2.1
theorem dX12_tries_184 : decode cX12_tries 184 = .ok (.iastore, 1) := eX12_tries_178.2.2.2.1
theorem dX12_tries_185 : decode cX12_tries 185 = .ok (.iinc 7 1, 3) := eX12_tries_178.2.2.2.2.1
theorem dX12_tries_188 : decode cX12_tries 188 = .ok (.goto (-25), 3) := eX12_tries_178.2.2.2.2.2.1
theorem dX12_tries_191 : decode cX12_tries 191 = .ok (.iinc 6 1, 3) := eX12_tries_178.2.2.2.2.2.2.1
theorem dX12_tries_194 : decode cX12_tries 194 = .ok (.goto (-82), 3) := eX12_tries_178.2.2.2.2.2.2.2.1
theorem eX12_tries_197 : decode cX12_tries 197 = .ok (.aload_n 0, 1) ∧ decode cX12_tries 198 = .ok (.iload 5, 2) ∧ decode cX12_tries 200 = .ok (.i2l, 1) ∧ decode cX12_tries 201 = .ok (.iload_n 3, 1) ∧ decode cX12_tries 202 = .ok (.i2l, 1) ∧ decode cX12_tries 203 = .ok (.invokevirtual 361, 3) ∧ decode cX12_tries 206 = .ok (.ireturn, 1) ∧ True := dkl_ok (c := cX12_tries) [(.aload_n 0, 1), (.iload 5, 2), (.i2l, 1), (.iload_n 3, 1), (.i2l, 1), (.invokevirtual 361, 3), (.ireturn, 1)] 197 (by decide +kernel)
theorem dX12_tries_197 : decode cX12_tries 197 = .ok (.aload_n 0, 1) := eX12_tries_197.1
theorem dX12_tries_198 : decode cX12_tries 198 = .ok (.iload 5, 2) := eX12_tries_197.2.1
theorem dX12_tries_200 : decode cX12_tries 200 = .ok (.i2l, 1) := eX12_tries_197.2.2.1
theorem dX12_tries_201 : decode cX12_tries 201 = .ok (.iload_n 3, 1) := eX12_tries_197.2.2.2.1
theorem dX12_tries_202 : decode cX12_tries 202 = .ok (.i2l, 1) := eX12_tries_197.2.2.2.2.1
theorem dX12_tries_203 : decode cX12_tries 203 = .ok (.invokevirtual 361, 3) := eX12_tries_197.2.2.2.2.2.1
theorem dX12_tries_206 : decode cX12_tries 206 = .ok (.ireturn, 1) := eX12_tries_197.2.2.2.2.2.2.1
theorem eX12_wins_0 : decode cX12_wins 0 = .ok (.aload_n 0, 1) ∧ decode cX12_wins 1 = .ok (.iload_n 1, 1) ∧ decode cX12_wins 2 = .ok (.iload_n 2, 1) ∧ decode cX12_wins 3 = .ok (.iload_n 3, 1) ∧ decode cX12_wins 4 = .ok (.iconst 1, 1) ∧ decode cX12_wins 5 = .ok (.invokevirtual 451, 3) ∧ decode cX12_wins 8 = .ok (.ireturn, 1) ∧ True := dkl_ok (c := cX12_wins) [(.aload_n 0, 1), (.iload_n 1, 1), (.iload_n 2, 1), (.iload_n 3, 1), (.iconst 1, 1), (.invokevirtual 451, 3), (.ireturn, 1)] 0 (by decide +kernel)
theorem dX12_wins_0 : decode cX12_wins 0 = .ok (.aload_n 0, 1) := eX12_wins_0.1
theorem dX12_wins_1 : decode cX12_wins 1 = .ok (.iload_n 1, 1) := eX12_wins_0.2.1
theorem dX12_wins_2 : decode cX12_wins 2 = .ok (.iload_n 2, 1) := eX12_wins_0.2.2.1
theorem dX12_wins_3 : decode cX12_wins 3 = .ok (.iload_n 3, 1) := eX12_wins_0.2.2.2.1
theorem dX12_wins_4 : decode cX12_wins 4 = .ok (.iconst 1, 1) := eX12_wins_0.2.2.2.2.1
theorem dX12_wins_5 : decode cX12_wins 5 = .ok (.invokevirtual 451, 3) := eX12_wins_0.2.2.2.2.2.1
theorem dX12_wins_8 : decode cX12_wins 8 = .ok (.ireturn, 1) := eX12_wins_0.2.2.2.2.2.2.1
theorem eX12_left_0 : decode cX12_left 0 = .ok (.aload_n 0, 1) ∧ decode cX12_left 1 = .ok (.iload_n 1, 1) ∧ decode cX12_left 2 = .ok (.iload_n 2, 1) ∧ decode cX12_left 3 = .ok (.iload_n 3, 1) ∧ decode cX12_left 4 = .ok (.iconst 0, 1) ∧ decode cX12_left 5 = .ok (.invokevirtual 451, 3) ∧ decode cX12_left 8 = .ok (.ireturn, 1) ∧ True := dkl_ok (c := cX12_left) [(.aload_n 0, 1), (.iload_n 1, 1), (.iload_n 2, 1), (.iload_n 3, 1), (.iconst 0, 1), (.invokevirtual 451, 3), (.ireturn, 1)] 0 (by decide +kernel)
theorem dX12_left_0 : decode cX12_left 0 = .ok (.aload_n 0, 1) := eX12_left_0.1
theorem dX12_left_1 : decode cX12_left 1 = .ok (.iload_n 1, 1) := eX12_left_0.2.1
theorem dX12_left_2 : decode cX12_left 2 = .ok (.iload_n 2, 1) := eX12_left_0.2.2.1
theorem dX12_left_3 : decode cX12_left 3 = .ok (.iload_n 3, 1) := eX12_left_0.2.2.2.1
theorem dX12_left_4 : decode cX12_left 4 = .ok (.iconst 0, 1) := eX12_left_0.2.2.2.2.1
theorem dX12_left_5 : decode cX12_left 5 = .ok (.invokevirtual 451, 3) := eX12_left_0.2.2.2.2.2.1
theorem dX12_left_8 : decode cX12_left 8 = .ok (.ireturn, 1) := eX12_left_0.2.2.2.2.2.2.1
theorem eX12_copy_0 : decode cX12_copy 0 = .ok (.iconst 0, 1) ∧ decode cX12_copy 1 = .ok (.istore_n 3, 1) ∧ decode cX12_copy 2 = .ok (.iload_n 3, 1) ∧ decode cX12_copy 3 = .ok (.sipush 930, 3) ∧ decode cX12_copy 6 = .ok (.if_icmp .ge 33, 3) ∧ decode cX12_copy 9 = .ok (.aload_n 0, 1) ∧ decode cX12_copy 10 = .ok (.getfield 35, 3) ∧ decode cX12_copy 13 = .ok (.sipush 930, 3) ∧ True := dkl_ok (c := cX12_copy) [(.iconst 0, 1), (.istore_n 3, 1), (.iload_n 3, 1), (.sipush 930, 3), (.if_icmp .ge 33, 3), (.aload_n 0, 1), (.getfield 35, 3), (.sipush 930, 3)] 0 (by decide +kernel)
theorem dX12_copy_0 : decode cX12_copy 0 = .ok (.iconst 0, 1) := eX12_copy_0.1
theorem dX12_copy_1 : decode cX12_copy 1 = .ok (.istore_n 3, 1) := eX12_copy_0.2.1
theorem dX12_copy_2 : decode cX12_copy 2 = .ok (.iload_n 3, 1) := eX12_copy_0.2.2.1
theorem dX12_copy_3 : decode cX12_copy 3 = .ok (.sipush 930, 3) := eX12_copy_0.2.2.2.1
theorem dX12_copy_6 : decode cX12_copy 6 = .ok (.if_icmp .ge 33, 3) := eX12_copy_0.2.2.2.2.1
theorem dX12_copy_9 : decode cX12_copy 9 = .ok (.aload_n 0, 1) := eX12_copy_0.2.2.2.2.2.1
theorem dX12_copy_10 : decode cX12_copy 10 = .ok (.getfield 35, 3) := eX12_copy_0.2.2.2.2.2.2.1
theorem dX12_copy_13 : decode cX12_copy 13 = .ok (.sipush 930, 3) := eX12_copy_0.2.2.2.2.2.2.2.1
theorem eX12_copy_16 : decode cX12_copy 16 = .ok (.iload_n 2, 1) ∧ decode cX12_copy 17 = .ok (.imul, 1) ∧ decode cX12_copy 18 = .ok (.iload_n 3, 1) ∧ decode cX12_copy 19 = .ok (.iadd, 1) ∧ decode cX12_copy 20 = .ok (.aload_n 0, 1) ∧ decode cX12_copy 21 = .ok (.getfield 35, 3) ∧ decode cX12_copy 24 = .ok (.sipush 930, 3) ∧ decode cX12_copy 27 = .ok (.iload_n 1, 1) ∧ True := dkl_ok (c := cX12_copy) [(.iload_n 2, 1), (.imul, 1), (.iload_n 3, 1), (.iadd, 1), (.aload_n 0, 1), (.getfield 35, 3), (.sipush 930, 3), (.iload_n 1, 1)] 16 (by decide +kernel)
theorem dX12_copy_16 : decode cX12_copy 16 = .ok (.iload_n 2, 1) := eX12_copy_16.1
theorem dX12_copy_17 : decode cX12_copy 17 = .ok (.imul, 1) := eX12_copy_16.2.1
theorem dX12_copy_18 : decode cX12_copy 18 = .ok (.iload_n 3, 1) := eX12_copy_16.2.2.1
theorem dX12_copy_19 : decode cX12_copy 19 = .ok (.iadd, 1) := eX12_copy_16.2.2.2.1
theorem dX12_copy_20 : decode cX12_copy 20 = .ok (.aload_n 0, 1) := eX12_copy_16.2.2.2.2.1
theorem dX12_copy_21 : decode cX12_copy 21 = .ok (.getfield 35, 3) := eX12_copy_16.2.2.2.2.2.1
theorem dX12_copy_24 : decode cX12_copy 24 = .ok (.sipush 930, 3) := eX12_copy_16.2.2.2.2.2.2.1
theorem dX12_copy_27 : decode cX12_copy 27 = .ok (.iload_n 1, 1) := eX12_copy_16.2.2.2.2.2.2.2.1
theorem eX12_copy_28 : decode cX12_copy 28 = .ok (.imul, 1) ∧ decode cX12_copy 29 = .ok (.iload_n 3, 1) ∧ decode cX12_copy 30 = .ok (.iadd, 1) ∧ decode cX12_copy 31 = .ok (.iaload, 1) ∧ decode cX12_copy 32 = .ok (.iastore, 1) ∧ decode cX12_copy 33 = .ok (.iinc 3 1, 3) ∧ decode cX12_copy 36 = .ok (.goto (-34), 3) ∧ decode cX12_copy 39 = .ok (.iconst 0, 1) ∧ True := dkl_ok (c := cX12_copy) [(.imul, 1), (.iload_n 3, 1), (.iadd, 1), (.iaload, 1), (.iastore, 1), (.iinc 3 1, 3), (.goto (-34), 3), (.iconst 0, 1)] 28 (by decide +kernel)
theorem dX12_copy_28 : decode cX12_copy 28 = .ok (.imul, 1) := eX12_copy_28.1
theorem dX12_copy_29 : decode cX12_copy 29 = .ok (.iload_n 3, 1) := eX12_copy_28.2.1
theorem dX12_copy_30 : decode cX12_copy 30 = .ok (.iadd, 1) := eX12_copy_28.2.2.1
theorem dX12_copy_31 : decode cX12_copy 31 = .ok (.iaload, 1) := eX12_copy_28.2.2.2.1
theorem dX12_copy_32 : decode cX12_copy 32 = .ok (.iastore, 1) := eX12_copy_28.2.2.2.2.1
theorem dX12_copy_33 : decode cX12_copy 33 = .ok (.iinc 3 1, 3) := eX12_copy_28.2.2.2.2.2.1
theorem dX12_copy_36 : decode cX12_copy 36 = .ok (.goto (-34), 3) := eX12_copy_28.2.2.2.2.2.2.1
theorem dX12_copy_39 : decode cX12_copy 39 = .ok (.iconst 0, 1) := eX12_copy_28.2.2.2.2.2.2.2.1
theorem eX12_copy_40 : decode cX12_copy 40 = .ok (.istore_n 3, 1) ∧ decode cX12_copy 41 = .ok (.iload_n 3, 1) ∧ decode cX12_copy 42 = .ok (.bipush 6, 2) ∧ decode cX12_copy 44 = .ok (.if_icmp .ge 31, 3) ∧ decode cX12_copy 47 = .ok (.aload_n 0, 1) ∧ decode cX12_copy 48 = .ok (.getfield 44, 3) ∧ decode cX12_copy 51 = .ok (.bipush 6, 2) ∧ decode cX12_copy 53 = .ok (.iload_n 2, 1) ∧ True := dkl_ok (c := cX12_copy) [(.istore_n 3, 1), (.iload_n 3, 1), (.bipush 6, 2), (.if_icmp .ge 31, 3), (.aload_n 0, 1), (.getfield 44, 3), (.bipush 6, 2), (.iload_n 2, 1)] 40 (by decide +kernel)
theorem dX12_copy_40 : decode cX12_copy 40 = .ok (.istore_n 3, 1) := eX12_copy_40.1
theorem dX12_copy_41 : decode cX12_copy 41 = .ok (.iload_n 3, 1) := eX12_copy_40.2.1
theorem dX12_copy_42 : decode cX12_copy 42 = .ok (.bipush 6, 2) := eX12_copy_40.2.2.1
theorem dX12_copy_44 : decode cX12_copy 44 = .ok (.if_icmp .ge 31, 3) := eX12_copy_40.2.2.2.1
theorem dX12_copy_47 : decode cX12_copy 47 = .ok (.aload_n 0, 1) := eX12_copy_40.2.2.2.2.1
theorem dX12_copy_48 : decode cX12_copy 48 = .ok (.getfield 44, 3) := eX12_copy_40.2.2.2.2.2.1
theorem dX12_copy_51 : decode cX12_copy 51 = .ok (.bipush 6, 2) := eX12_copy_40.2.2.2.2.2.2.1
theorem dX12_copy_53 : decode cX12_copy 53 = .ok (.iload_n 2, 1) := eX12_copy_40.2.2.2.2.2.2.2.1
theorem eX12_copy_54 : decode cX12_copy 54 = .ok (.imul, 1) ∧ decode cX12_copy 55 = .ok (.iload_n 3, 1) ∧ decode cX12_copy 56 = .ok (.iadd, 1) ∧ decode cX12_copy 57 = .ok (.aload_n 0, 1) ∧ decode cX12_copy 58 = .ok (.getfield 44, 3) ∧ decode cX12_copy 61 = .ok (.bipush 6, 2) ∧ decode cX12_copy 63 = .ok (.iload_n 1, 1) ∧ decode cX12_copy 64 = .ok (.imul, 1) ∧ True := dkl_ok (c := cX12_copy) [(.imul, 1), (.iload_n 3, 1), (.iadd, 1), (.aload_n 0, 1), (.getfield 44, 3), (.bipush 6, 2), (.iload_n 1, 1), (.imul, 1)] 54 (by decide +kernel)
theorem dX12_copy_54 : decode cX12_copy 54 = .ok (.imul, 1) := eX12_copy_54.1
theorem dX12_copy_55 : decode cX12_copy 55 = .ok (.iload_n 3, 1) := eX12_copy_54.2.1
theorem dX12_copy_56 : decode cX12_copy 56 = .ok (.iadd, 1) := eX12_copy_54.2.2.1
theorem dX12_copy_57 : decode cX12_copy 57 = .ok (.aload_n 0, 1) := eX12_copy_54.2.2.2.1
theorem dX12_copy_58 : decode cX12_copy 58 = .ok (.getfield 44, 3) := eX12_copy_54.2.2.2.2.1
theorem dX12_copy_61 : decode cX12_copy 61 = .ok (.bipush 6, 2) := eX12_copy_54.2.2.2.2.2.1
theorem dX12_copy_63 : decode cX12_copy 63 = .ok (.iload_n 1, 1) := eX12_copy_54.2.2.2.2.2.2.1
theorem dX12_copy_64 : decode cX12_copy 64 = .ok (.imul, 1) := eX12_copy_54.2.2.2.2.2.2.2.1
theorem eX12_copy_65 : decode cX12_copy 65 = .ok (.iload_n 3, 1) ∧ decode cX12_copy 66 = .ok (.iadd, 1) ∧ decode cX12_copy 67 = .ok (.laload, 1) ∧ decode cX12_copy 68 = .ok (.lastore, 1) ∧ decode cX12_copy 69 = .ok (.iinc 3 1, 3) ∧ decode cX12_copy 72 = .ok (.goto (-31), 3) ∧ decode cX12_copy 75 = .ok (.return_, 1) ∧ True := dkl_ok (c := cX12_copy) [(.iload_n 3, 1), (.iadd, 1), (.laload, 1), (.lastore, 1), (.iinc 3 1, 3), (.goto (-31), 3), (.return_, 1)] 65 (by decide +kernel)
theorem dX12_copy_65 : decode cX12_copy 65 = .ok (.iload_n 3, 1) := eX12_copy_65.1
theorem dX12_copy_66 : decode cX12_copy 66 = .ok (.iadd, 1) := eX12_copy_65.2.1
theorem dX12_copy_67 : decode cX12_copy 67 = .ok (.laload, 1) := eX12_copy_65.2.2.1
theorem dX12_copy_68 : decode cX12_copy 68 = .ok (.lastore, 1) := eX12_copy_65.2.2.2.1
theorem dX12_copy_69 : decode cX12_copy 69 = .ok (.iinc 3 1, 3) := eX12_copy_65.2.2.2.2.1
theorem dX12_copy_72 : decode cX12_copy 72 = .ok (.goto (-31), 3) := eX12_copy_65.2.2.2.2.2.1
theorem dX12_copy_75 : decode cX12_copy 75 = .ok (.return_, 1) := eX12_copy_65.2.2.2.2.2.2.1
theorem eX12_mark_0 : decode cX12_mark 0 = .ok (.aload_n 0, 1) ∧ decode cX12_mark 1 = .ok (.iconst 0, 1) ∧ decode cX12_mark 2 = .ok (.putfield 59, 3) ∧ decode cX12_mark 5 = .ok (.aload_n 0, 1) ∧ decode cX12_mark 6 = .ok (.iconst 0, 1) ∧ decode cX12_mark 7 = .ok (.putfield 62, 3) ∧ decode cX12_mark 10 = .ok (.aload_n 0, 1) ∧ decode cX12_mark 11 = .ok (.getfield 455, 3) ∧ True := dkl_ok (c := cX12_mark) [(.aload_n 0, 1), (.iconst 0, 1), (.putfield 59, 3), (.aload_n 0, 1), (.iconst 0, 1), (.putfield 62, 3), (.aload_n 0, 1), (.getfield 455, 3)] 0 (by decide +kernel)
theorem dX12_mark_0 : decode cX12_mark 0 = .ok (.aload_n 0, 1) := eX12_mark_0.1
theorem dX12_mark_1 : decode cX12_mark 1 = .ok (.iconst 0, 1) := eX12_mark_0.2.1
theorem dX12_mark_2 : decode cX12_mark 2 = .ok (.putfield 59, 3) := eX12_mark_0.2.2.1
theorem dX12_mark_5 : decode cX12_mark 5 = .ok (.aload_n 0, 1) := eX12_mark_0.2.2.2.1
theorem dX12_mark_6 : decode cX12_mark 6 = .ok (.iconst 0, 1) := eX12_mark_0.2.2.2.2.1
theorem dX12_mark_7 : decode cX12_mark 7 = .ok (.putfield 62, 3) := eX12_mark_0.2.2.2.2.2.1
theorem dX12_mark_10 : decode cX12_mark 10 = .ok (.aload_n 0, 1) := eX12_mark_0.2.2.2.2.2.2.1
theorem dX12_mark_11 : decode cX12_mark 11 = .ok (.getfield 455, 3) := eX12_mark_0.2.2.2.2.2.2.2.1
theorem eX12_mark_14 : decode cX12_mark 14 = .ok (.iconst 3, 1) ∧ decode cX12_mark 15 = .ok (.if_icmp .ne 10, 3) ∧ decode cX12_mark 18 = .ok (.aload_n 0, 1) ∧ decode cX12_mark 19 = .ok (.bipush 7, 2) ∧ decode cX12_mark 21 = .ok (.invokevirtual 284, 3) ∧ decode cX12_mark 24 = .ok (.ireturn, 1) ∧ decode cX12_mark 25 = .ok (.aload_n 0, 1) ∧ decode cX12_mark 26 = .ok (.dup, 1) ∧ True := dkl_ok (c := cX12_mark) [(.iconst 3, 1), (.if_icmp .ne 10, 3), (.aload_n 0, 1), (.bipush 7, 2), (.invokevirtual 284, 3), (.ireturn, 1), (.aload_n 0, 1), (.dup, 1)] 14 (by decide +kernel)
theorem dX12_mark_14 : decode cX12_mark 14 = .ok (.iconst 3, 1) := eX12_mark_14.1
theorem dX12_mark_15 : decode cX12_mark 15 = .ok (.if_icmp .ne 10, 3) := eX12_mark_14.2.1
theorem dX12_mark_18 : decode cX12_mark 18 = .ok (.aload_n 0, 1) := eX12_mark_14.2.2.1
theorem dX12_mark_19 : decode cX12_mark 19 = .ok (.bipush 7, 2) := eX12_mark_14.2.2.2.1
theorem dX12_mark_21 : decode cX12_mark 21 = .ok (.invokevirtual 284, 3) := eX12_mark_14.2.2.2.2.1
theorem dX12_mark_24 : decode cX12_mark 24 = .ok (.ireturn, 1) := eX12_mark_14.2.2.2.2.2.1
theorem dX12_mark_25 : decode cX12_mark 25 = .ok (.aload_n 0, 1) := eX12_mark_14.2.2.2.2.2.2.1
theorem dX12_mark_26 : decode cX12_mark 26 = .ok (.dup, 1) := eX12_mark_14.2.2.2.2.2.2.2.1
theorem eX12_mark_27 : decode cX12_mark 27 = .ok (.getfield 455, 3) ∧ decode cX12_mark 30 = .ok (.iconst 1, 1) ∧ decode cX12_mark 31 = .ok (.iadd, 1) ∧ decode cX12_mark 32 = .ok (.putfield 455, 3) ∧ decode cX12_mark 35 = .ok (.aload_n 0, 1) ∧ decode cX12_mark 36 = .ok (.iconst 0, 1) ∧ decode cX12_mark 37 = .ok (.aload_n 0, 1) ∧ decode cX12_mark 38 = .ok (.getfield 455, 3) ∧ True := dkl_ok (c := cX12_mark) [(.getfield 455, 3), (.iconst 1, 1), (.iadd, 1), (.putfield 455, 3), (.aload_n 0, 1), (.iconst 0, 1), (.aload_n 0, 1), (.getfield 455, 3)] 27 (by decide +kernel)
theorem dX12_mark_27 : decode cX12_mark 27 = .ok (.getfield 455, 3) := eX12_mark_27.1
theorem dX12_mark_30 : decode cX12_mark 30 = .ok (.iconst 1, 1) := eX12_mark_27.2.1
theorem dX12_mark_31 : decode cX12_mark 31 = .ok (.iadd, 1) := eX12_mark_27.2.2.1
theorem dX12_mark_32 : decode cX12_mark 32 = .ok (.putfield 455, 3) := eX12_mark_27.2.2.2.1
theorem dX12_mark_35 : decode cX12_mark 35 = .ok (.aload_n 0, 1) := eX12_mark_27.2.2.2.2.1
theorem dX12_mark_36 : decode cX12_mark 36 = .ok (.iconst 0, 1) := eX12_mark_27.2.2.2.2.2.1
theorem dX12_mark_37 : decode cX12_mark 37 = .ok (.aload_n 0, 1) := eX12_mark_27.2.2.2.2.2.2.1
theorem dX12_mark_38 : decode cX12_mark 38 = .ok (.getfield 455, 3) := eX12_mark_27.2.2.2.2.2.2.2.1
theorem eX12_mark_41 : decode cX12_mark 41 = .ok (.invokevirtual 261, 3) ∧ decode cX12_mark 44 = .ok (.aload_n 0, 1) ∧ decode cX12_mark 45 = .ok (.getfield 455, 3) ∧ decode cX12_mark 48 = .ok (.ireturn, 1) ∧ True := dkl_ok (c := cX12_mark) [(.invokevirtual 261, 3), (.aload_n 0, 1), (.getfield 455, 3), (.ireturn, 1)] 41 (by decide +kernel)
theorem dX12_mark_41 : decode cX12_mark 41 = .ok (.invokevirtual 261, 3) := eX12_mark_41.1
theorem dX12_mark_44 : decode cX12_mark 44 = .ok (.aload_n 0, 1) := eX12_mark_41.2.1
theorem dX12_mark_45 : decode cX12_mark 45 = .ok (.getfield 455, 3) := eX12_mark_41.2.2.1
theorem dX12_mark_48 : decode cX12_mark 48 = .ok (.ireturn, 1) := eX12_mark_41.2.2.2.1
theorem eX12_back_0 : decode cX12_back 0 = .ok (.aload_n 0, 1) ∧ decode cX12_back 1 = .ok (.iconst 0, 1) ∧ decode cX12_back 2 = .ok (.putfield 59, 3) ∧ decode cX12_back 5 = .ok (.aload_n 0, 1) ∧ decode cX12_back 6 = .ok (.iconst 0, 1) ∧ decode cX12_back 7 = .ok (.putfield 62, 3) ∧ decode cX12_back 10 = .ok (.aload_n 0, 1) ∧ decode cX12_back 11 = .ok (.getfield 455, 3) ∧ True := dkl_ok (c := cX12_back) [(.aload_n 0, 1), (.iconst 0, 1), (.putfield 59, 3), (.aload_n 0, 1), (.iconst 0, 1), (.putfield 62, 3), (.aload_n 0, 1), (.getfield 455, 3)] 0 (by decide +kernel)
theorem dX12_back_0 : decode cX12_back 0 = .ok (.aload_n 0, 1) := eX12_back_0.1
theorem dX12_back_1 : decode cX12_back 1 = .ok (.iconst 0, 1) := eX12_back_0.2.1
theorem dX12_back_2 : decode cX12_back 2 = .ok (.putfield 59, 3) := eX12_back_0.2.2.1
theorem dX12_back_5 : decode cX12_back 5 = .ok (.aload_n 0, 1) := eX12_back_0.2.2.2.1
theorem dX12_back_6 : decode cX12_back 6 = .ok (.iconst 0, 1) := eX12_back_0.2.2.2.2.1
theorem dX12_back_7 : decode cX12_back 7 = .ok (.putfield 62, 3) := eX12_back_0.2.2.2.2.2.1
theorem dX12_back_10 : decode cX12_back 10 = .ok (.aload_n 0, 1) := eX12_back_0.2.2.2.2.2.2.1
theorem dX12_back_11 : decode cX12_back 11 = .ok (.getfield 455, 3) := eX12_back_0.2.2.2.2.2.2.2.1
theorem eX12_back_14 : decode cX12_back 14 = .ok (.ifCond .ne 10, 3) ∧ decode cX12_back 17 = .ok (.aload_n 0, 1) ∧ decode cX12_back 18 = .ok (.bipush 8, 2) ∧ decode cX12_back 20 = .ok (.invokevirtual 284, 3) ∧ decode cX12_back 23 = .ok (.ireturn, 1) ∧ decode cX12_back 24 = .ok (.aload_n 0, 1) ∧ decode cX12_back 25 = .ok (.aload_n 0, 1) ∧ decode cX12_back 26 = .ok (.getfield 455, 3) ∧ True := dkl_ok (c := cX12_back) [(.ifCond .ne 10, 3), (.aload_n 0, 1), (.bipush 8, 2), (.invokevirtual 284, 3), (.ireturn, 1), (.aload_n 0, 1), (.aload_n 0, 1), (.getfield 455, 3)] 14 (by decide +kernel)
theorem dX12_back_14 : decode cX12_back 14 = .ok (.ifCond .ne 10, 3) := eX12_back_14.1
theorem dX12_back_17 : decode cX12_back 17 = .ok (.aload_n 0, 1) := eX12_back_14.2.1
theorem dX12_back_18 : decode cX12_back 18 = .ok (.bipush 8, 2) := eX12_back_14.2.2.1
theorem dX12_back_20 : decode cX12_back 20 = .ok (.invokevirtual 284, 3) := eX12_back_14.2.2.2.1
theorem dX12_back_23 : decode cX12_back 23 = .ok (.ireturn, 1) := eX12_back_14.2.2.2.2.1
theorem dX12_back_24 : decode cX12_back 24 = .ok (.aload_n 0, 1) := eX12_back_14.2.2.2.2.2.1
theorem dX12_back_25 : decode cX12_back 25 = .ok (.aload_n 0, 1) := eX12_back_14.2.2.2.2.2.2.1
theorem dX12_back_26 : decode cX12_back 26 = .ok (.getfield 455, 3) := eX12_back_14.2.2.2.2.2.2.2.1
theorem eX12_back_29 : decode cX12_back 29 = .ok (.iconst 0, 1) ∧ decode cX12_back 30 = .ok (.invokevirtual 261, 3) ∧ decode cX12_back 33 = .ok (.aload_n 0, 1) ∧ decode cX12_back 34 = .ok (.dup, 1) ∧ decode cX12_back 35 = .ok (.getfield 455, 3) ∧ decode cX12_back 38 = .ok (.iconst 1, 1) ∧ decode cX12_back 39 = .ok (.isub, 1) ∧ decode cX12_back 40 = .ok (.putfield 455, 3) ∧ True := dkl_ok (c := cX12_back) [(.iconst 0, 1), (.invokevirtual 261, 3), (.aload_n 0, 1), (.dup, 1), (.getfield 455, 3), (.iconst 1, 1), (.isub, 1), (.putfield 455, 3)] 29 (by decide +kernel)
theorem dX12_back_29 : decode cX12_back 29 = .ok (.iconst 0, 1) := eX12_back_29.1
theorem dX12_back_30 : decode cX12_back 30 = .ok (.invokevirtual 261, 3) := eX12_back_29.2.1
theorem dX12_back_33 : decode cX12_back 33 = .ok (.aload_n 0, 1) := eX12_back_29.2.2.1
theorem dX12_back_34 : decode cX12_back 34 = .ok (.dup, 1) := eX12_back_29.2.2.2.1
theorem dX12_back_35 : decode cX12_back 35 = .ok (.getfield 455, 3) := eX12_back_29.2.2.2.2.1
theorem dX12_back_38 : decode cX12_back 38 = .ok (.iconst 1, 1) := eX12_back_29.2.2.2.2.2.1
theorem dX12_back_39 : decode cX12_back 39 = .ok (.isub, 1) := eX12_back_29.2.2.2.2.2.2.1
theorem dX12_back_40 : decode cX12_back 40 = .ok (.putfield 455, 3) := eX12_back_29.2.2.2.2.2.2.2.1
theorem eX12_back_43 : decode cX12_back 43 = .ok (.aload_n 0, 1) ∧ decode cX12_back 44 = .ok (.getfield 455, 3) ∧ decode cX12_back 47 = .ok (.ireturn, 1) ∧ True := dkl_ok (c := cX12_back) [(.aload_n 0, 1), (.getfield 455, 3), (.ireturn, 1)] 43 (by decide +kernel)
theorem dX12_back_43 : decode cX12_back 43 = .ok (.aload_n 0, 1) := eX12_back_43.1
theorem dX12_back_44 : decode cX12_back 44 = .ok (.getfield 455, 3) := eX12_back_43.2.1
theorem dX12_back_47 : decode cX12_back 47 = .ok (.ireturn, 1) := eX12_back_43.2.2.1
theorem eJ9_floorMod_7cf53_0 : decode cJ9_floorMod_7cf53 0 = .ok (.iload_n 0, 1) ∧ decode cJ9_floorMod_7cf53 1 = .ok (.iload_n 1, 1) ∧ decode cJ9_floorMod_7cf53 2 = .ok (.irem, 1) ∧ decode cJ9_floorMod_7cf53 3 = .ok (.istore_n 2, 1) ∧ decode cJ9_floorMod_7cf53 4 = .ok (.iload_n 0, 1) ∧ decode cJ9_floorMod_7cf53 5 = .ok (.iload_n 1, 1) ∧ decode cJ9_floorMod_7cf53 6 = .ok (.ixor, 1) ∧ decode cJ9_floorMod_7cf53 7 = .ok (.ifCond .ge 11, 3) ∧ True := dkl_ok (c := cJ9_floorMod_7cf53) [(.iload_n 0, 1), (.iload_n 1, 1), (.irem, 1), (.istore_n 2, 1), (.iload_n 0, 1), (.iload_n 1, 1), (.ixor, 1), (.ifCond .ge 11, 3)] 0 (by decide +kernel)
theorem dJ9_floorMod_7cf53_0 : decode cJ9_floorMod_7cf53 0 = .ok (.iload_n 0, 1) := eJ9_floorMod_7cf53_0.1
theorem dJ9_floorMod_7cf53_1 : decode cJ9_floorMod_7cf53 1 = .ok (.iload_n 1, 1) := eJ9_floorMod_7cf53_0.2.1
theorem dJ9_floorMod_7cf53_2 : decode cJ9_floorMod_7cf53 2 = .ok (.irem, 1) := eJ9_floorMod_7cf53_0.2.2.1
theorem dJ9_floorMod_7cf53_3 : decode cJ9_floorMod_7cf53 3 = .ok (.istore_n 2, 1) := eJ9_floorMod_7cf53_0.2.2.2.1
theorem dJ9_floorMod_7cf53_4 : decode cJ9_floorMod_7cf53 4 = .ok (.iload_n 0, 1) := eJ9_floorMod_7cf53_0.2.2.2.2.1
theorem dJ9_floorMod_7cf53_5 : decode cJ9_floorMod_7cf53 5 = .ok (.iload_n 1, 1) := eJ9_floorMod_7cf53_0.2.2.2.2.2.1
theorem dJ9_floorMod_7cf53_6 : decode cJ9_floorMod_7cf53 6 = .ok (.ixor, 1) := eJ9_floorMod_7cf53_0.2.2.2.2.2.2.1
theorem dJ9_floorMod_7cf53_7 : decode cJ9_floorMod_7cf53 7 = .ok (.ifCond .ge 11, 3) := eJ9_floorMod_7cf53_0.2.2.2.2.2.2.2.1
theorem eJ9_floorMod_7cf53_10 : decode cJ9_floorMod_7cf53 10 = .ok (.iload_n 2, 1) ∧ decode cJ9_floorMod_7cf53 11 = .ok (.ifCond .eq 7, 3) ∧ decode cJ9_floorMod_7cf53 14 = .ok (.iload_n 2, 1) ∧ decode cJ9_floorMod_7cf53 15 = .ok (.iload_n 1, 1) ∧ decode cJ9_floorMod_7cf53 16 = .ok (.iadd, 1) ∧ decode cJ9_floorMod_7cf53 17 = .ok (.ireturn, 1) ∧ decode cJ9_floorMod_7cf53 18 = .ok (.iload_n 2, 1) ∧ decode cJ9_floorMod_7cf53 19 = .ok (.ireturn, 1) ∧ True := dkl_ok (c := cJ9_floorMod_7cf53) [(.iload_n 2, 1), (.ifCond .eq 7, 3), (.iload_n 2, 1), (.iload_n 1, 1), (.iadd, 1), (.ireturn, 1), (.iload_n 2, 1), (.ireturn, 1)] 10 (by decide +kernel)
theorem dJ9_floorMod_7cf53_10 : decode cJ9_floorMod_7cf53 10 = .ok (.iload_n 2, 1) := eJ9_floorMod_7cf53_10.1
theorem dJ9_floorMod_7cf53_11 : decode cJ9_floorMod_7cf53 11 = .ok (.ifCond .eq 7, 3) := eJ9_floorMod_7cf53_10.2.1
theorem dJ9_floorMod_7cf53_14 : decode cJ9_floorMod_7cf53 14 = .ok (.iload_n 2, 1) := eJ9_floorMod_7cf53_10.2.2.1
theorem dJ9_floorMod_7cf53_15 : decode cJ9_floorMod_7cf53 15 = .ok (.iload_n 1, 1) := eJ9_floorMod_7cf53_10.2.2.2.1
theorem dJ9_floorMod_7cf53_16 : decode cJ9_floorMod_7cf53 16 = .ok (.iadd, 1) := eJ9_floorMod_7cf53_10.2.2.2.2.1
theorem dJ9_floorMod_7cf53_17 : decode cJ9_floorMod_7cf53 17 = .ok (.ireturn, 1) := eJ9_floorMod_7cf53_10.2.2.2.2.2.1
theorem dJ9_floorMod_7cf53_18 : decode cJ9_floorMod_7cf53 18 = .ok (.iload_n 2, 1) := eJ9_floorMod_7cf53_10.2.2.2.2.2.2.1
theorem dJ9_floorMod_7cf53_19 : decode cJ9_floorMod_7cf53 19 = .ok (.ireturn, 1) := eJ9_floorMod_7cf53_10.2.2.2.2.2.2.2.1
theorem eJ9_abs_067f4_0 : decode cJ9_abs_067f4 0 = .ok (.lload_n 0, 1) ∧ decode cJ9_abs_067f4 1 = .ok (.lconst 0, 1) ∧ decode cJ9_abs_067f4 2 = .ok (.lcmp, 1) ∧ decode cJ9_abs_067f4 3 = .ok (.ifCond .ge 8, 3) ∧ decode cJ9_abs_067f4 6 = .ok (.lload_n 0, 1) ∧ decode cJ9_abs_067f4 7 = .ok (.lneg, 1) ∧ decode cJ9_abs_067f4 8 = .ok (.goto 4, 3) ∧ decode cJ9_abs_067f4 11 = .ok (.lload_n 0, 1) ∧ True := dkl_ok (c := cJ9_abs_067f4) [(.lload_n 0, 1), (.lconst 0, 1), (.lcmp, 1), (.ifCond .ge 8, 3), (.lload_n 0, 1), (.lneg, 1), (.goto 4, 3), (.lload_n 0, 1)] 0 (by decide +kernel)
theorem dJ9_abs_067f4_0 : decode cJ9_abs_067f4 0 = .ok (.lload_n 0, 1) := eJ9_abs_067f4_0.1
theorem dJ9_abs_067f4_1 : decode cJ9_abs_067f4 1 = .ok (.lconst 0, 1) := eJ9_abs_067f4_0.2.1
theorem dJ9_abs_067f4_2 : decode cJ9_abs_067f4 2 = .ok (.lcmp, 1) := eJ9_abs_067f4_0.2.2.1
theorem dJ9_abs_067f4_3 : decode cJ9_abs_067f4 3 = .ok (.ifCond .ge 8, 3) := eJ9_abs_067f4_0.2.2.2.1
theorem dJ9_abs_067f4_6 : decode cJ9_abs_067f4 6 = .ok (.lload_n 0, 1) := eJ9_abs_067f4_0.2.2.2.2.1
theorem dJ9_abs_067f4_7 : decode cJ9_abs_067f4 7 = .ok (.lneg, 1) := eJ9_abs_067f4_0.2.2.2.2.2.1
theorem dJ9_abs_067f4_8 : decode cJ9_abs_067f4 8 = .ok (.goto 4, 3) := eJ9_abs_067f4_0.2.2.2.2.2.2.1
theorem dJ9_abs_067f4_11 : decode cJ9_abs_067f4 11 = .ok (.lload_n 0, 1) := eJ9_abs_067f4_0.2.2.2.2.2.2.2.1
theorem eJ9_abs_067f4_12 : decode cJ9_abs_067f4 12 = .ok (.lreturn, 1) ∧ True := dkl_ok (c := cJ9_abs_067f4) [(.lreturn, 1)] 12 (by decide +kernel)
theorem dJ9_abs_067f4_12 : decode cJ9_abs_067f4 12 = .ok (.lreturn, 1) := eJ9_abs_067f4_12.1
theorem eJ9_max_7cf53_0 : decode cJ9_max_7cf53 0 = .ok (.iload_n 0, 1) ∧ decode cJ9_max_7cf53 1 = .ok (.iload_n 1, 1) ∧ decode cJ9_max_7cf53 2 = .ok (.if_icmp .lt 7, 3) ∧ decode cJ9_max_7cf53 5 = .ok (.iload_n 0, 1) ∧ decode cJ9_max_7cf53 6 = .ok (.goto 4, 3) ∧ decode cJ9_max_7cf53 9 = .ok (.iload_n 1, 1) ∧ decode cJ9_max_7cf53 10 = .ok (.ireturn, 1) ∧ True := dkl_ok (c := cJ9_max_7cf53) [(.iload_n 0, 1), (.iload_n 1, 1), (.if_icmp .lt 7, 3), (.iload_n 0, 1), (.goto 4, 3), (.iload_n 1, 1), (.ireturn, 1)] 0 (by decide +kernel)
theorem dJ9_max_7cf53_0 : decode cJ9_max_7cf53 0 = .ok (.iload_n 0, 1) := eJ9_max_7cf53_0.1
theorem dJ9_max_7cf53_1 : decode cJ9_max_7cf53 1 = .ok (.iload_n 1, 1) := eJ9_max_7cf53_0.2.1
theorem dJ9_max_7cf53_2 : decode cJ9_max_7cf53 2 = .ok (.if_icmp .lt 7, 3) := eJ9_max_7cf53_0.2.2.1
theorem dJ9_max_7cf53_5 : decode cJ9_max_7cf53 5 = .ok (.iload_n 0, 1) := eJ9_max_7cf53_0.2.2.2.1
theorem dJ9_max_7cf53_6 : decode cJ9_max_7cf53 6 = .ok (.goto 4, 3) := eJ9_max_7cf53_0.2.2.2.2.1
theorem dJ9_max_7cf53_9 : decode cJ9_max_7cf53 9 = .ok (.iload_n 1, 1) := eJ9_max_7cf53_0.2.2.2.2.2.1
theorem dJ9_max_7cf53_10 : decode cJ9_max_7cf53 10 = .ok (.ireturn, 1) := eJ9_max_7cf53_0.2.2.2.2.2.2.1
theorem eJ9_min_7cf53_0 : decode cJ9_min_7cf53 0 = .ok (.iload_n 0, 1) ∧ decode cJ9_min_7cf53 1 = .ok (.iload_n 1, 1) ∧ decode cJ9_min_7cf53 2 = .ok (.if_icmp .gt 7, 3) ∧ decode cJ9_min_7cf53 5 = .ok (.iload_n 0, 1) ∧ decode cJ9_min_7cf53 6 = .ok (.goto 4, 3) ∧ decode cJ9_min_7cf53 9 = .ok (.iload_n 1, 1) ∧ decode cJ9_min_7cf53 10 = .ok (.ireturn, 1) ∧ True := dkl_ok (c := cJ9_min_7cf53) [(.iload_n 0, 1), (.iload_n 1, 1), (.if_icmp .gt 7, 3), (.iload_n 0, 1), (.goto 4, 3), (.iload_n 1, 1), (.ireturn, 1)] 0 (by decide +kernel)
theorem dJ9_min_7cf53_0 : decode cJ9_min_7cf53 0 = .ok (.iload_n 0, 1) := eJ9_min_7cf53_0.1
theorem dJ9_min_7cf53_1 : decode cJ9_min_7cf53 1 = .ok (.iload_n 1, 1) := eJ9_min_7cf53_0.2.1
theorem dJ9_min_7cf53_2 : decode cJ9_min_7cf53 2 = .ok (.if_icmp .gt 7, 3) := eJ9_min_7cf53_0.2.2.1
theorem dJ9_min_7cf53_5 : decode cJ9_min_7cf53 5 = .ok (.iload_n 0, 1) := eJ9_min_7cf53_0.2.2.2.1
theorem dJ9_min_7cf53_6 : decode cJ9_min_7cf53 6 = .ok (.goto 4, 3) := eJ9_min_7cf53_0.2.2.2.2.1
theorem dJ9_min_7cf53_9 : decode cJ9_min_7cf53 9 = .ok (.iload_n 1, 1) := eJ9_min_7cf53_0.2.2.2.2.2.1
theorem dJ9_min_7cf53_10 : decode cJ9_min_7cf53 10 = .ok (.ireturn, 1) := eJ9_min_7cf53_0.2.2.2.2.2.2.1
theorem eJ0_length_8abf5_0 : decode cJ0_length_8abf5 0 = .ok (.aload_n 0, 1) ∧ decode cJ0_length_8abf5 1 = .ok (.getfield 9, 3) ∧ decode cJ0_length_8abf5 4 = .ok (.arraylength, 1) ∧ decode cJ0_length_8abf5 5 = .ok (.aload_n 0, 1) ∧ decode cJ0_length_8abf5 6 = .ok (.invokevirtual 335, 3) ∧ decode cJ0_length_8abf5 9 = .ok (.ishr, 1) ∧ decode cJ0_length_8abf5 10 = .ok (.ireturn, 1) ∧ True := dkl_ok (c := cJ0_length_8abf5) [(.aload_n 0, 1), (.getfield 9, 3), (.arraylength, 1), (.aload_n 0, 1), (.invokevirtual 335, 3), (.ishr, 1), (.ireturn, 1)] 0 (by decide +kernel)
theorem dJ0_length_8abf5_0 : decode cJ0_length_8abf5 0 = .ok (.aload_n 0, 1) := eJ0_length_8abf5_0.1
theorem dJ0_length_8abf5_1 : decode cJ0_length_8abf5 1 = .ok (.getfield 9, 3) := eJ0_length_8abf5_0.2.1
theorem dJ0_length_8abf5_4 : decode cJ0_length_8abf5 4 = .ok (.arraylength, 1) := eJ0_length_8abf5_0.2.2.1
theorem dJ0_length_8abf5_5 : decode cJ0_length_8abf5 5 = .ok (.aload_n 0, 1) := eJ0_length_8abf5_0.2.2.2.1
theorem dJ0_length_8abf5_6 : decode cJ0_length_8abf5 6 = .ok (.invokevirtual 335, 3) := eJ0_length_8abf5_0.2.2.2.2.1
theorem dJ0_length_8abf5_9 : decode cJ0_length_8abf5 9 = .ok (.ishr, 1) := eJ0_length_8abf5_0.2.2.2.2.2.1
theorem dJ0_length_8abf5_10 : decode cJ0_length_8abf5 10 = .ok (.ireturn, 1) := eJ0_length_8abf5_0.2.2.2.2.2.2.1
theorem eJ0_charAt_5068e_0 : decode cJ0_charAt_5068e 0 = .ok (.aload_n 0, 1) ∧ decode cJ0_charAt_5068e 1 = .ok (.invokevirtual 492, 3) ∧ decode cJ0_charAt_5068e 4 = .ok (.ifCond .eq 12, 3) ∧ decode cJ0_charAt_5068e 7 = .ok (.aload_n 0, 1) ∧ decode cJ0_charAt_5068e 8 = .ok (.getfield 9, 3) ∧ decode cJ0_charAt_5068e 11 = .ok (.iload_n 1, 1) ∧ decode cJ0_charAt_5068e 12 = .ok (.invokestatic 495, 3) ∧ decode cJ0_charAt_5068e 15 = .ok (.ireturn, 1) ∧ True := dkl_ok (c := cJ0_charAt_5068e) [(.aload_n 0, 1), (.invokevirtual 492, 3), (.ifCond .eq 12, 3), (.aload_n 0, 1), (.getfield 9, 3), (.iload_n 1, 1), (.invokestatic 495, 3), (.ireturn, 1)] 0 (by decide +kernel)
theorem dJ0_charAt_5068e_0 : decode cJ0_charAt_5068e 0 = .ok (.aload_n 0, 1) := eJ0_charAt_5068e_0.1
theorem dJ0_charAt_5068e_1 : decode cJ0_charAt_5068e 1 = .ok (.invokevirtual 492, 3) := eJ0_charAt_5068e_0.2.1
theorem dJ0_charAt_5068e_4 : decode cJ0_charAt_5068e 4 = .ok (.ifCond .eq 12, 3) := eJ0_charAt_5068e_0.2.2.1
theorem dJ0_charAt_5068e_7 : decode cJ0_charAt_5068e 7 = .ok (.aload_n 0, 1) := eJ0_charAt_5068e_0.2.2.2.1
theorem dJ0_charAt_5068e_8 : decode cJ0_charAt_5068e 8 = .ok (.getfield 9, 3) := eJ0_charAt_5068e_0.2.2.2.2.1
theorem dJ0_charAt_5068e_11 : decode cJ0_charAt_5068e 11 = .ok (.iload_n 1, 1) := eJ0_charAt_5068e_0.2.2.2.2.2.1
theorem dJ0_charAt_5068e_12 : decode cJ0_charAt_5068e 12 = .ok (.invokestatic 495, 3) := eJ0_charAt_5068e_0.2.2.2.2.2.2.1
theorem dJ0_charAt_5068e_15 : decode cJ0_charAt_5068e 15 = .ok (.ireturn, 1) := eJ0_charAt_5068e_0.2.2.2.2.2.2.2.1
theorem eJ0_charAt_5068e_16 : decode cJ0_charAt_5068e 16 = .ok (.aload_n 0, 1) ∧ decode cJ0_charAt_5068e 17 = .ok (.getfield 9, 3) ∧ decode cJ0_charAt_5068e 20 = .ok (.iload_n 1, 1) ∧ decode cJ0_charAt_5068e 21 = .ok (.invokestatic 498, 3) ∧ decode cJ0_charAt_5068e 24 = .ok (.ireturn, 1) ∧ True := dkl_ok (c := cJ0_charAt_5068e) [(.aload_n 0, 1), (.getfield 9, 3), (.iload_n 1, 1), (.invokestatic 498, 3), (.ireturn, 1)] 16 (by decide +kernel)
theorem dJ0_charAt_5068e_16 : decode cJ0_charAt_5068e 16 = .ok (.aload_n 0, 1) := eJ0_charAt_5068e_16.1
theorem dJ0_charAt_5068e_17 : decode cJ0_charAt_5068e 17 = .ok (.getfield 9, 3) := eJ0_charAt_5068e_16.2.1
theorem dJ0_charAt_5068e_20 : decode cJ0_charAt_5068e 20 = .ok (.iload_n 1, 1) := eJ0_charAt_5068e_16.2.2.1
theorem dJ0_charAt_5068e_21 : decode cJ0_charAt_5068e 21 = .ok (.invokestatic 498, 3) := eJ0_charAt_5068e_16.2.2.2.1
theorem dJ0_charAt_5068e_24 : decode cJ0_charAt_5068e 24 = .ok (.ireturn, 1) := eJ0_charAt_5068e_16.2.2.2.2.1
theorem eJ0_coder_7d493_0 : decode cJ0_coder_7d493 0 = .ok (.getstatic 38, 3) ∧ decode cJ0_coder_7d493 3 = .ok (.ifCond .eq 10, 3) ∧ decode cJ0_coder_7d493 6 = .ok (.aload_n 0, 1) ∧ decode cJ0_coder_7d493 7 = .ok (.getfield 15, 3) ∧ decode cJ0_coder_7d493 10 = .ok (.goto 4, 3) ∧ decode cJ0_coder_7d493 13 = .ok (.iconst 1, 1) ∧ decode cJ0_coder_7d493 14 = .ok (.ireturn, 1) ∧ True := dkl_ok (c := cJ0_coder_7d493) [(.getstatic 38, 3), (.ifCond .eq 10, 3), (.aload_n 0, 1), (.getfield 15, 3), (.goto 4, 3), (.iconst 1, 1), (.ireturn, 1)] 0 (by decide +kernel)
theorem dJ0_coder_7d493_0 : decode cJ0_coder_7d493 0 = .ok (.getstatic 38, 3) := eJ0_coder_7d493_0.1
theorem dJ0_coder_7d493_3 : decode cJ0_coder_7d493 3 = .ok (.ifCond .eq 10, 3) := eJ0_coder_7d493_0.2.1
theorem dJ0_coder_7d493_6 : decode cJ0_coder_7d493 6 = .ok (.aload_n 0, 1) := eJ0_coder_7d493_0.2.2.1
theorem dJ0_coder_7d493_7 : decode cJ0_coder_7d493 7 = .ok (.getfield 15, 3) := eJ0_coder_7d493_0.2.2.2.1
theorem dJ0_coder_7d493_10 : decode cJ0_coder_7d493 10 = .ok (.goto 4, 3) := eJ0_coder_7d493_0.2.2.2.2.1
theorem dJ0_coder_7d493_13 : decode cJ0_coder_7d493 13 = .ok (.iconst 1, 1) := eJ0_coder_7d493_0.2.2.2.2.2.1
theorem dJ0_coder_7d493_14 : decode cJ0_coder_7d493 14 = .ok (.ireturn, 1) := eJ0_coder_7d493_0.2.2.2.2.2.2.1
theorem eJ0_isLatin1_aae02_0 : decode cJ0_isLatin1_aae02 0 = .ok (.getstatic 38, 3) ∧ decode cJ0_isLatin1_aae02 3 = .ok (.ifCond .eq 14, 3) ∧ decode cJ0_isLatin1_aae02 6 = .ok (.aload_n 0, 1) ∧ decode cJ0_isLatin1_aae02 7 = .ok (.getfield 15, 3) ∧ decode cJ0_isLatin1_aae02 10 = .ok (.ifCond .ne 7, 3) ∧ decode cJ0_isLatin1_aae02 13 = .ok (.iconst 1, 1) ∧ decode cJ0_isLatin1_aae02 14 = .ok (.goto 4, 3) ∧ decode cJ0_isLatin1_aae02 17 = .ok (.iconst 0, 1) ∧ True := dkl_ok (c := cJ0_isLatin1_aae02) [(.getstatic 38, 3), (.ifCond .eq 14, 3), (.aload_n 0, 1), (.getfield 15, 3), (.ifCond .ne 7, 3), (.iconst 1, 1), (.goto 4, 3), (.iconst 0, 1)] 0 (by decide +kernel)
theorem dJ0_isLatin1_aae02_0 : decode cJ0_isLatin1_aae02 0 = .ok (.getstatic 38, 3) := eJ0_isLatin1_aae02_0.1
theorem dJ0_isLatin1_aae02_3 : decode cJ0_isLatin1_aae02 3 = .ok (.ifCond .eq 14, 3) := eJ0_isLatin1_aae02_0.2.1
theorem dJ0_isLatin1_aae02_6 : decode cJ0_isLatin1_aae02 6 = .ok (.aload_n 0, 1) := eJ0_isLatin1_aae02_0.2.2.1
theorem dJ0_isLatin1_aae02_7 : decode cJ0_isLatin1_aae02 7 = .ok (.getfield 15, 3) := eJ0_isLatin1_aae02_0.2.2.2.1
theorem dJ0_isLatin1_aae02_10 : decode cJ0_isLatin1_aae02 10 = .ok (.ifCond .ne 7, 3) := eJ0_isLatin1_aae02_0.2.2.2.2.1
theorem dJ0_isLatin1_aae02_13 : decode cJ0_isLatin1_aae02 13 = .ok (.iconst 1, 1) := eJ0_isLatin1_aae02_0.2.2.2.2.2.1
theorem dJ0_isLatin1_aae02_14 : decode cJ0_isLatin1_aae02 14 = .ok (.goto 4, 3) := eJ0_isLatin1_aae02_0.2.2.2.2.2.2.1
theorem dJ0_isLatin1_aae02_17 : decode cJ0_isLatin1_aae02 17 = .ok (.iconst 0, 1) := eJ0_isLatin1_aae02_0.2.2.2.2.2.2.2.1
theorem eJ0_isLatin1_aae02_18 : decode cJ0_isLatin1_aae02 18 = .ok (.ireturn, 1) ∧ True := dkl_ok (c := cJ0_isLatin1_aae02) [(.ireturn, 1)] 18 (by decide +kernel)
theorem dJ0_isLatin1_aae02_18 : decode cJ0_isLatin1_aae02 18 = .ok (.ireturn, 1) := eJ0_isLatin1_aae02_18.1
theorem eJ0_checkIndex_df160_0 : decode cJ0_checkIndex_df160 0 = .ok (.iload_n 0, 1) ∧ decode cJ0_checkIndex_df160 1 = .ok (.iload_n 1, 1) ∧ decode cJ0_checkIndex_df160 2 = .ok (.getstatic 1053, 3) ∧ decode cJ0_checkIndex_df160 5 = .ok (.invokestatic 1059, 3) ∧ decode cJ0_checkIndex_df160 8 = .ok (.pop, 1) ∧ decode cJ0_checkIndex_df160 9 = .ok (.return_, 1) ∧ True := dkl_ok (c := cJ0_checkIndex_df160) [(.iload_n 0, 1), (.iload_n 1, 1), (.getstatic 1053, 3), (.invokestatic 1059, 3), (.pop, 1), (.return_, 1)] 0 (by decide +kernel)
theorem dJ0_checkIndex_df160_0 : decode cJ0_checkIndex_df160 0 = .ok (.iload_n 0, 1) := eJ0_checkIndex_df160_0.1
theorem dJ0_checkIndex_df160_1 : decode cJ0_checkIndex_df160 1 = .ok (.iload_n 1, 1) := eJ0_checkIndex_df160_0.2.1
theorem dJ0_checkIndex_df160_2 : decode cJ0_checkIndex_df160 2 = .ok (.getstatic 1053, 3) := eJ0_checkIndex_df160_0.2.2.1
theorem dJ0_checkIndex_df160_5 : decode cJ0_checkIndex_df160 5 = .ok (.invokestatic 1059, 3) := eJ0_checkIndex_df160_0.2.2.2.1
theorem dJ0_checkIndex_df160_8 : decode cJ0_checkIndex_df160 8 = .ok (.pop, 1) := eJ0_checkIndex_df160_0.2.2.2.2.1
theorem dJ0_checkIndex_df160_9 : decode cJ0_checkIndex_df160 9 = .ok (.return_, 1) := eJ0_checkIndex_df160_0.2.2.2.2.2.1
theorem eJ1_charAt_3b067_0 : decode cJ1_charAt_3b067 0 = .ok (.iload_n 1, 1) ∧ decode cJ1_charAt_3b067 1 = .ok (.aload_n 0, 1) ∧ decode cJ1_charAt_3b067 2 = .ok (.arraylength, 1) ∧ decode cJ1_charAt_3b067 3 = .ok (.invokestatic 9, 3) ∧ decode cJ1_charAt_3b067 6 = .ok (.aload_n 0, 1) ∧ decode cJ1_charAt_3b067 7 = .ok (.iload_n 1, 1) ∧ decode cJ1_charAt_3b067 8 = .ok (.baload, 1) ∧ decode cJ1_charAt_3b067 9 = .ok (.sipush 255, 3) ∧ True := dkl_ok (c := cJ1_charAt_3b067) [(.iload_n 1, 1), (.aload_n 0, 1), (.arraylength, 1), (.invokestatic 9, 3), (.aload_n 0, 1), (.iload_n 1, 1), (.baload, 1), (.sipush 255, 3)] 0 (by decide +kernel)
theorem dJ1_charAt_3b067_0 : decode cJ1_charAt_3b067 0 = .ok (.iload_n 1, 1) := eJ1_charAt_3b067_0.1
theorem dJ1_charAt_3b067_1 : decode cJ1_charAt_3b067 1 = .ok (.aload_n 0, 1) := eJ1_charAt_3b067_0.2.1
theorem dJ1_charAt_3b067_2 : decode cJ1_charAt_3b067 2 = .ok (.arraylength, 1) := eJ1_charAt_3b067_0.2.2.1
theorem dJ1_charAt_3b067_3 : decode cJ1_charAt_3b067 3 = .ok (.invokestatic 9, 3) := eJ1_charAt_3b067_0.2.2.2.1
theorem dJ1_charAt_3b067_6 : decode cJ1_charAt_3b067 6 = .ok (.aload_n 0, 1) := eJ1_charAt_3b067_0.2.2.2.2.1
theorem dJ1_charAt_3b067_7 : decode cJ1_charAt_3b067 7 = .ok (.iload_n 1, 1) := eJ1_charAt_3b067_0.2.2.2.2.2.1
theorem dJ1_charAt_3b067_8 : decode cJ1_charAt_3b067 8 = .ok (.baload, 1) := eJ1_charAt_3b067_0.2.2.2.2.2.2.1
theorem dJ1_charAt_3b067_9 : decode cJ1_charAt_3b067 9 = .ok (.sipush 255, 3) := eJ1_charAt_3b067_0.2.2.2.2.2.2.2.1
theorem eJ1_charAt_3b067_12 : decode cJ1_charAt_3b067 12 = .ok (.iand, 1) ∧ decode cJ1_charAt_3b067 13 = .ok (.i2c, 1) ∧ decode cJ1_charAt_3b067 14 = .ok (.ireturn, 1) ∧ True := dkl_ok (c := cJ1_charAt_3b067) [(.iand, 1), (.i2c, 1), (.ireturn, 1)] 12 (by decide +kernel)
theorem dJ1_charAt_3b067_12 : decode cJ1_charAt_3b067 12 = .ok (.iand, 1) := eJ1_charAt_3b067_12.1
theorem dJ1_charAt_3b067_13 : decode cJ1_charAt_3b067 13 = .ok (.i2c, 1) := eJ1_charAt_3b067_12.2.1
theorem dJ1_charAt_3b067_14 : decode cJ1_charAt_3b067 14 = .ok (.ireturn, 1) := eJ1_charAt_3b067_12.2.2.1
theorem eJ2_getChar_3b067_0 : decode cJ2_getChar_3b067 0 = .ok (.getstatic 44, 3) ∧ decode cJ2_getChar_3b067 3 = .ok (.ifCond .ne 25, 3) ∧ decode cJ2_getChar_3b067 6 = .ok (.iload_n 1, 1) ∧ decode cJ2_getChar_3b067 7 = .ok (.ifCond .lt 11, 3) ∧ decode cJ2_getChar_3b067 10 = .ok (.iload_n 1, 1) ∧ decode cJ2_getChar_3b067 11 = .ok (.aload_n 0, 1) ∧ decode cJ2_getChar_3b067 12 = .ok (.invokestatic 48, 3) ∧ decode cJ2_getChar_3b067 15 = .ok (.if_icmp .lt 13, 3) ∧ True := dkl_ok (c := cJ2_getChar_3b067) [(.getstatic 44, 3), (.ifCond .ne 25, 3), (.iload_n 1, 1), (.ifCond .lt 11, 3), (.iload_n 1, 1), (.aload_n 0, 1), (.invokestatic 48, 3), (.if_icmp .lt 13, 3)] 0 (by decide +kernel)
theorem dJ2_getChar_3b067_0 : decode cJ2_getChar_3b067 0 = .ok (.getstatic 44, 3) := eJ2_getChar_3b067_0.1
theorem dJ2_getChar_3b067_3 : decode cJ2_getChar_3b067 3 = .ok (.ifCond .ne 25, 3) := eJ2_getChar_3b067_0.2.1
theorem dJ2_getChar_3b067_6 : decode cJ2_getChar_3b067 6 = .ok (.iload_n 1, 1) := eJ2_getChar_3b067_0.2.2.1
theorem dJ2_getChar_3b067_7 : decode cJ2_getChar_3b067 7 = .ok (.ifCond .lt 11, 3) := eJ2_getChar_3b067_0.2.2.2.1
theorem dJ2_getChar_3b067_10 : decode cJ2_getChar_3b067 10 = .ok (.iload_n 1, 1) := eJ2_getChar_3b067_0.2.2.2.2.1
theorem dJ2_getChar_3b067_11 : decode cJ2_getChar_3b067 11 = .ok (.aload_n 0, 1) := eJ2_getChar_3b067_0.2.2.2.2.2.1
theorem dJ2_getChar_3b067_12 : decode cJ2_getChar_3b067 12 = .ok (.invokestatic 48, 3) := eJ2_getChar_3b067_0.2.2.2.2.2.2.1
theorem dJ2_getChar_3b067_15 : decode cJ2_getChar_3b067 15 = .ok (.if_icmp .lt 13, 3) := eJ2_getChar_3b067_0.2.2.2.2.2.2.2.1
theorem eJ2_getChar_3b067_18 : decode cJ2_getChar_3b067 18 = .ok (.new 52, 3) ∧ decode cJ2_getChar_3b067 21 = .ok (.dup, 1) ∧ decode cJ2_getChar_3b067 22 = .ok (.ldc 54, 2) ∧ decode cJ2_getChar_3b067 24 = .ok (.invokespecial 56, 3) ∧ decode cJ2_getChar_3b067 27 = .ok (.athrow, 1) ∧ decode cJ2_getChar_3b067 28 = .ok (.iload_n 1, 1) ∧ decode cJ2_getChar_3b067 29 = .ok (.iconst 1, 1) ∧ decode cJ2_getChar_3b067 30 = .ok (.ishl, 1) ∧ True := dkl_ok (c := cJ2_getChar_3b067) [(.new 52, 3), (.dup, 1), (.ldc 54, 2), (.invokespecial 56, 3), (.athrow, 1), (.iload_n 1, 1), (.iconst 1, 1), (.ishl, 1)] 18 (by decide +kernel)
theorem dJ2_getChar_3b067_18 : decode cJ2_getChar_3b067 18 = .ok (.new 52, 3) := eJ2_getChar_3b067_18.1
theorem dJ2_getChar_3b067_21 : decode cJ2_getChar_3b067 21 = .ok (.dup, 1) := eJ2_getChar_3b067_18.2.1
theorem dJ2_getChar_3b067_22 : decode cJ2_getChar_3b067 22 = .ok (.ldc 54, 2) := eJ2_getChar_3b067_18.2.2.1
theorem dJ2_getChar_3b067_24 : decode cJ2_getChar_3b067 24 = .ok (.invokespecial 56, 3) := eJ2_getChar_3b067_18.2.2.2.1
theorem dJ2_getChar_3b067_27 : decode cJ2_getChar_3b067 27 = .ok (.athrow, 1) := eJ2_getChar_3b067_18.2.2.2.2.1
theorem dJ2_getChar_3b067_28 : decode cJ2_getChar_3b067 28 = .ok (.iload_n 1, 1) := eJ2_getChar_3b067_18.2.2.2.2.2.1
theorem dJ2_getChar_3b067_29 : decode cJ2_getChar_3b067 29 = .ok (.iconst 1, 1) := eJ2_getChar_3b067_18.2.2.2.2.2.2.1
theorem dJ2_getChar_3b067_30 : decode cJ2_getChar_3b067 30 = .ok (.ishl, 1) := eJ2_getChar_3b067_18.2.2.2.2.2.2.2.1
theorem eJ2_getChar_3b067_31 : decode cJ2_getChar_3b067 31 = .ok (.istore_n 1, 1) ∧ decode cJ2_getChar_3b067 32 = .ok (.aload_n 0, 1) ∧ decode cJ2_getChar_3b067 33 = .ok (.iload_n 1, 1) ∧ decode cJ2_getChar_3b067 34 = .ok (.iinc 1 1, 3) ∧ decode cJ2_getChar_3b067 37 = .ok (.baload, 1) ∧ decode cJ2_getChar_3b067 38 = .ok (.sipush 255, 3) ∧ decode cJ2_getChar_3b067 41 = .ok (.iand, 1) ∧ decode cJ2_getChar_3b067 42 = .ok (.getstatic 59, 3) ∧ True := dkl_ok (c := cJ2_getChar_3b067) [(.istore_n 1, 1), (.aload_n 0, 1), (.iload_n 1, 1), (.iinc 1 1, 3), (.baload, 1), (.sipush 255, 3), (.iand, 1), (.getstatic 59, 3)] 31 (by decide +kernel)
theorem dJ2_getChar_3b067_31 : decode cJ2_getChar_3b067 31 = .ok (.istore_n 1, 1) := eJ2_getChar_3b067_31.1
theorem dJ2_getChar_3b067_32 : decode cJ2_getChar_3b067 32 = .ok (.aload_n 0, 1) := eJ2_getChar_3b067_31.2.1
theorem dJ2_getChar_3b067_33 : decode cJ2_getChar_3b067 33 = .ok (.iload_n 1, 1) := eJ2_getChar_3b067_31.2.2.1
theorem dJ2_getChar_3b067_34 : decode cJ2_getChar_3b067 34 = .ok (.iinc 1 1, 3) := eJ2_getChar_3b067_31.2.2.2.1
theorem dJ2_getChar_3b067_37 : decode cJ2_getChar_3b067 37 = .ok (.baload, 1) := eJ2_getChar_3b067_31.2.2.2.2.1
theorem dJ2_getChar_3b067_38 : decode cJ2_getChar_3b067 38 = .ok (.sipush 255, 3) := eJ2_getChar_3b067_31.2.2.2.2.2.1
theorem dJ2_getChar_3b067_41 : decode cJ2_getChar_3b067 41 = .ok (.iand, 1) := eJ2_getChar_3b067_31.2.2.2.2.2.2.1
theorem dJ2_getChar_3b067_42 : decode cJ2_getChar_3b067 42 = .ok (.getstatic 59, 3) := eJ2_getChar_3b067_31.2.2.2.2.2.2.2.1
theorem eJ2_getChar_3b067_45 : decode cJ2_getChar_3b067 45 = .ok (.ishl, 1) ∧ decode cJ2_getChar_3b067 46 = .ok (.aload_n 0, 1) ∧ decode cJ2_getChar_3b067 47 = .ok (.iload_n 1, 1) ∧ decode cJ2_getChar_3b067 48 = .ok (.baload, 1) ∧ decode cJ2_getChar_3b067 49 = .ok (.sipush 255, 3) ∧ decode cJ2_getChar_3b067 52 = .ok (.iand, 1) ∧ decode cJ2_getChar_3b067 53 = .ok (.getstatic 63, 3) ∧ decode cJ2_getChar_3b067 56 = .ok (.ishl, 1) ∧ True := dkl_ok (c := cJ2_getChar_3b067) [(.ishl, 1), (.aload_n 0, 1), (.iload_n 1, 1), (.baload, 1), (.sipush 255, 3), (.iand, 1), (.getstatic 63, 3), (.ishl, 1)] 45 (by decide +kernel)
theorem dJ2_getChar_3b067_45 : decode cJ2_getChar_3b067 45 = .ok (.ishl, 1) := eJ2_getChar_3b067_45.1
theorem dJ2_getChar_3b067_46 : decode cJ2_getChar_3b067 46 = .ok (.aload_n 0, 1) := eJ2_getChar_3b067_45.2.1
theorem dJ2_getChar_3b067_47 : decode cJ2_getChar_3b067 47 = .ok (.iload_n 1, 1) := eJ2_getChar_3b067_45.2.2.1
theorem dJ2_getChar_3b067_48 : decode cJ2_getChar_3b067 48 = .ok (.baload, 1) := eJ2_getChar_3b067_45.2.2.2.1
theorem dJ2_getChar_3b067_49 : decode cJ2_getChar_3b067 49 = .ok (.sipush 255, 3) := eJ2_getChar_3b067_45.2.2.2.2.1
theorem dJ2_getChar_3b067_52 : decode cJ2_getChar_3b067 52 = .ok (.iand, 1) := eJ2_getChar_3b067_45.2.2.2.2.2.1
theorem dJ2_getChar_3b067_53 : decode cJ2_getChar_3b067 53 = .ok (.getstatic 63, 3) := eJ2_getChar_3b067_45.2.2.2.2.2.2.1
theorem dJ2_getChar_3b067_56 : decode cJ2_getChar_3b067 56 = .ok (.ishl, 1) := eJ2_getChar_3b067_45.2.2.2.2.2.2.2.1
theorem eJ2_getChar_3b067_57 : decode cJ2_getChar_3b067 57 = .ok (.ior, 1) ∧ decode cJ2_getChar_3b067 58 = .ok (.i2c, 1) ∧ decode cJ2_getChar_3b067 59 = .ok (.ireturn, 1) ∧ True := dkl_ok (c := cJ2_getChar_3b067) [(.ior, 1), (.i2c, 1), (.ireturn, 1)] 57 (by decide +kernel)
theorem dJ2_getChar_3b067_57 : decode cJ2_getChar_3b067 57 = .ok (.ior, 1) := eJ2_getChar_3b067_57.1
theorem dJ2_getChar_3b067_58 : decode cJ2_getChar_3b067 58 = .ok (.i2c, 1) := eJ2_getChar_3b067_57.2.1
theorem dJ2_getChar_3b067_59 : decode cJ2_getChar_3b067 59 = .ok (.ireturn, 1) := eJ2_getChar_3b067_57.2.2.1
theorem eJ2_length_9d52b_0 : decode cJ2_length_9d52b 0 = .ok (.aload_n 0, 1) ∧ decode cJ2_length_9d52b 1 = .ok (.arraylength, 1) ∧ decode cJ2_length_9d52b 2 = .ok (.iconst 1, 1) ∧ decode cJ2_length_9d52b 3 = .ok (.ishr, 1) ∧ decode cJ2_length_9d52b 4 = .ok (.ireturn, 1) ∧ True := dkl_ok (c := cJ2_length_9d52b) [(.aload_n 0, 1), (.arraylength, 1), (.iconst 1, 1), (.ishr, 1), (.ireturn, 1)] 0 (by decide +kernel)
theorem dJ2_length_9d52b_0 : decode cJ2_length_9d52b 0 = .ok (.aload_n 0, 1) := eJ2_length_9d52b_0.1
theorem dJ2_length_9d52b_1 : decode cJ2_length_9d52b 1 = .ok (.arraylength, 1) := eJ2_length_9d52b_0.2.1
theorem dJ2_length_9d52b_2 : decode cJ2_length_9d52b 2 = .ok (.iconst 1, 1) := eJ2_length_9d52b_0.2.2.1
theorem dJ2_length_9d52b_3 : decode cJ2_length_9d52b 3 = .ok (.ishr, 1) := eJ2_length_9d52b_0.2.2.2.1
theorem dJ2_length_9d52b_4 : decode cJ2_length_9d52b 4 = .ok (.ireturn, 1) := eJ2_length_9d52b_0.2.2.2.2.1
theorem eJ2_charAt_3b067_0 : decode cJ2_charAt_3b067 0 = .ok (.iload_n 1, 1) ∧ decode cJ2_charAt_3b067 1 = .ok (.aload_n 0, 1) ∧ decode cJ2_charAt_3b067 2 = .ok (.invokestatic 67, 3) ∧ decode cJ2_charAt_3b067 5 = .ok (.aload_n 0, 1) ∧ decode cJ2_charAt_3b067 6 = .ok (.iload_n 1, 1) ∧ decode cJ2_charAt_3b067 7 = .ok (.invokestatic 71, 3) ∧ decode cJ2_charAt_3b067 10 = .ok (.ireturn, 1) ∧ True := dkl_ok (c := cJ2_charAt_3b067) [(.iload_n 1, 1), (.aload_n 0, 1), (.invokestatic 67, 3), (.aload_n 0, 1), (.iload_n 1, 1), (.invokestatic 71, 3), (.ireturn, 1)] 0 (by decide +kernel)
theorem dJ2_charAt_3b067_0 : decode cJ2_charAt_3b067 0 = .ok (.iload_n 1, 1) := eJ2_charAt_3b067_0.1
theorem dJ2_charAt_3b067_1 : decode cJ2_charAt_3b067 1 = .ok (.aload_n 0, 1) := eJ2_charAt_3b067_0.2.1
theorem dJ2_charAt_3b067_2 : decode cJ2_charAt_3b067 2 = .ok (.invokestatic 67, 3) := eJ2_charAt_3b067_0.2.2.1
theorem dJ2_charAt_3b067_5 : decode cJ2_charAt_3b067 5 = .ok (.aload_n 0, 1) := eJ2_charAt_3b067_0.2.2.2.1
theorem dJ2_charAt_3b067_6 : decode cJ2_charAt_3b067 6 = .ok (.iload_n 1, 1) := eJ2_charAt_3b067_0.2.2.2.2.1
theorem dJ2_charAt_3b067_7 : decode cJ2_charAt_3b067 7 = .ok (.invokestatic 71, 3) := eJ2_charAt_3b067_0.2.2.2.2.2.1
theorem dJ2_charAt_3b067_10 : decode cJ2_charAt_3b067 10 = .ok (.ireturn, 1) := eJ2_charAt_3b067_0.2.2.2.2.2.2.1
theorem eJ2_checkIndex_2214a_0 : decode cJ2_checkIndex_2214a 0 = .ok (.iload_n 0, 1) ∧ decode cJ2_checkIndex_2214a 1 = .ok (.aload_n 1, 1) ∧ decode cJ2_checkIndex_2214a 2 = .ok (.invokestatic 48, 3) ∧ decode cJ2_checkIndex_2214a 5 = .ok (.invokestatic 414, 3) ∧ decode cJ2_checkIndex_2214a 8 = .ok (.return_, 1) ∧ True := dkl_ok (c := cJ2_checkIndex_2214a) [(.iload_n 0, 1), (.aload_n 1, 1), (.invokestatic 48, 3), (.invokestatic 414, 3), (.return_, 1)] 0 (by decide +kernel)
theorem dJ2_checkIndex_2214a_0 : decode cJ2_checkIndex_2214a 0 = .ok (.iload_n 0, 1) := eJ2_checkIndex_2214a_0.1
theorem dJ2_checkIndex_2214a_1 : decode cJ2_checkIndex_2214a 1 = .ok (.aload_n 1, 1) := eJ2_checkIndex_2214a_0.2.1
theorem dJ2_checkIndex_2214a_2 : decode cJ2_checkIndex_2214a 2 = .ok (.invokestatic 48, 3) := eJ2_checkIndex_2214a_0.2.2.1
theorem dJ2_checkIndex_2214a_5 : decode cJ2_checkIndex_2214a 5 = .ok (.invokestatic 414, 3) := eJ2_checkIndex_2214a_0.2.2.2.1
theorem dJ2_checkIndex_2214a_8 : decode cJ2_checkIndex_2214a 8 = .ok (.return_, 1) := eJ2_checkIndex_2214a_0.2.2.2.2.1
theorem eJ3_checkIndex_8e157_0 : decode cJ3_checkIndex_8e157 0 = .ok (.iload_n 0, 1) ∧ decode cJ3_checkIndex_8e157 1 = .ok (.ifCond .lt 8, 3) ∧ decode cJ3_checkIndex_8e157 4 = .ok (.iload_n 0, 1) ∧ decode cJ3_checkIndex_8e157 5 = .ok (.iload_n 1, 1) ∧ decode cJ3_checkIndex_8e157 6 = .ok (.if_icmp .lt 10, 3) ∧ decode cJ3_checkIndex_8e157 9 = .ok (.aload_n 2, 1) ∧ decode cJ3_checkIndex_8e157 10 = .ok (.iload_n 0, 1) ∧ decode cJ3_checkIndex_8e157 11 = .ok (.iload_n 1, 1) ∧ True := dkl_ok (c := cJ3_checkIndex_8e157) [(.iload_n 0, 1), (.ifCond .lt 8, 3), (.iload_n 0, 1), (.iload_n 1, 1), (.if_icmp .lt 10, 3), (.aload_n 2, 1), (.iload_n 0, 1), (.iload_n 1, 1)] 0 (by decide +kernel)
theorem dJ3_checkIndex_8e157_0 : decode cJ3_checkIndex_8e157 0 = .ok (.iload_n 0, 1) := eJ3_checkIndex_8e157_0.1
theorem dJ3_checkIndex_8e157_1 : decode cJ3_checkIndex_8e157 1 = .ok (.ifCond .lt 8, 3) := eJ3_checkIndex_8e157_0.2.1
theorem dJ3_checkIndex_8e157_4 : decode cJ3_checkIndex_8e157 4 = .ok (.iload_n 0, 1) := eJ3_checkIndex_8e157_0.2.2.1
theorem dJ3_checkIndex_8e157_5 : decode cJ3_checkIndex_8e157 5 = .ok (.iload_n 1, 1) := eJ3_checkIndex_8e157_0.2.2.2.1
theorem dJ3_checkIndex_8e157_6 : decode cJ3_checkIndex_8e157 6 = .ok (.if_icmp .lt 10, 3) := eJ3_checkIndex_8e157_0.2.2.2.2.1
theorem dJ3_checkIndex_8e157_9 : decode cJ3_checkIndex_8e157 9 = .ok (.aload_n 2, 1) := eJ3_checkIndex_8e157_0.2.2.2.2.2.1
theorem dJ3_checkIndex_8e157_10 : decode cJ3_checkIndex_8e157 10 = .ok (.iload_n 0, 1) := eJ3_checkIndex_8e157_0.2.2.2.2.2.2.1
theorem dJ3_checkIndex_8e157_11 : decode cJ3_checkIndex_8e157 11 = .ok (.iload_n 1, 1) := eJ3_checkIndex_8e157_0.2.2.2.2.2.2.2.1
theorem eJ3_checkIndex_8e157_12 : decode cJ3_checkIndex_8e157 12 = .ok (.invokestatic 95, 3) ∧ decode cJ3_checkIndex_8e157 15 = .ok (.athrow, 1) ∧ decode cJ3_checkIndex_8e157 16 = .ok (.iload_n 0, 1) ∧ decode cJ3_checkIndex_8e157 17 = .ok (.ireturn, 1) ∧ True := dkl_ok (c := cJ3_checkIndex_8e157) [(.invokestatic 95, 3), (.athrow, 1), (.iload_n 0, 1), (.ireturn, 1)] 12 (by decide +kernel)
theorem dJ3_checkIndex_8e157_12 : decode cJ3_checkIndex_8e157 12 = .ok (.invokestatic 95, 3) := eJ3_checkIndex_8e157_12.1
theorem dJ3_checkIndex_8e157_15 : decode cJ3_checkIndex_8e157 15 = .ok (.athrow, 1) := eJ3_checkIndex_8e157_12.2.1
theorem dJ3_checkIndex_8e157_16 : decode cJ3_checkIndex_8e157 16 = .ok (.iload_n 0, 1) := eJ3_checkIndex_8e157_12.2.2.1
theorem dJ3_checkIndex_8e157_17 : decode cJ3_checkIndex_8e157 17 = .ok (.ireturn, 1) := eJ3_checkIndex_8e157_12.2.2.2.1
theorem eL_law_0 : decode cL_law 0 = .ok (.new 7, 3) ∧ decode cL_law 3 = .ok (.dup, 1) ∧ decode cL_law 4 = .ok (.invokespecial 9, 3) ∧ decode cL_law 7 = .ok (.astore_n 1, 1) ∧ decode cL_law 8 = .ok (.new 10, 3) ∧ decode cL_law 11 = .ok (.dup, 1) ∧ decode cL_law 12 = .ok (.invokespecial 12, 3) ∧ decode cL_law 15 = .ok (.astore_n 2, 1) ∧ True := dkl_ok (c := cL_law) [(.new 7, 3), (.dup, 1), (.invokespecial 9, 3), (.astore_n 1, 1), (.new 10, 3), (.dup, 1), (.invokespecial 12, 3), (.astore_n 2, 1)] 0 (by decide +kernel)
theorem dL_law_0 : decode cL_law 0 = .ok (.new 7, 3) := eL_law_0.1
theorem dL_law_3 : decode cL_law 3 = .ok (.dup, 1) := eL_law_0.2.1
theorem dL_law_4 : decode cL_law 4 = .ok (.invokespecial 9, 3) := eL_law_0.2.2.1
theorem dL_law_7 : decode cL_law 7 = .ok (.astore_n 1, 1) := eL_law_0.2.2.2.1
theorem dL_law_8 : decode cL_law 8 = .ok (.new 10, 3) := eL_law_0.2.2.2.2.1
theorem dL_law_11 : decode cL_law 11 = .ok (.dup, 1) := eL_law_0.2.2.2.2.2.1
theorem dL_law_12 : decode cL_law 12 = .ok (.invokespecial 12, 3) := eL_law_0.2.2.2.2.2.2.1
theorem dL_law_15 : decode cL_law 15 = .ok (.astore_n 2, 1) := eL_law_0.2.2.2.2.2.2.2.1
theorem eL_law_16 : decode cL_law 16 = .ok (.iconst 0, 1) ∧ decode cL_law 17 = .ok (.istore_n 3, 1) ∧ decode cL_law 18 = .ok (.iload_n 3, 1) ∧ decode cL_law 19 = .ok (.aload_n 0, 1) ∧ decode cL_law 20 = .ok (.arraylength, 1) ∧ decode cL_law 21 = .ok (.bipush 6, 2) ∧ decode cL_law 23 = .ok (.isub, 1) ∧ decode cL_law 24 = .ok (.if_icmp .gt 1778, 3) ∧ True := dkl_ok (c := cL_law) [(.iconst 0, 1), (.istore_n 3, 1), (.iload_n 3, 1), (.aload_n 0, 1), (.arraylength, 1), (.bipush 6, 2), (.isub, 1), (.if_icmp .gt 1778, 3)] 16 (by decide +kernel)
theorem dL_law_16 : decode cL_law 16 = .ok (.iconst 0, 1) := eL_law_16.1
theorem dL_law_17 : decode cL_law 17 = .ok (.istore_n 3, 1) := eL_law_16.2.1
theorem dL_law_18 : decode cL_law 18 = .ok (.iload_n 3, 1) := eL_law_16.2.2.1
theorem dL_law_19 : decode cL_law 19 = .ok (.aload_n 0, 1) := eL_law_16.2.2.2.1
theorem dL_law_20 : decode cL_law 20 = .ok (.arraylength, 1) := eL_law_16.2.2.2.2.1
theorem dL_law_21 : decode cL_law 21 = .ok (.bipush 6, 2) := eL_law_16.2.2.2.2.2.1
theorem dL_law_23 : decode cL_law 23 = .ok (.isub, 1) := eL_law_16.2.2.2.2.2.2.1
theorem dL_law_24 : decode cL_law 24 = .ok (.if_icmp .gt 1778, 3) := eL_law_16.2.2.2.2.2.2.2.1
theorem eL_law_27 : decode cL_law 27 = .ok (.aload_n 0, 1) ∧ decode cL_law 28 = .ok (.iload_n 3, 1) ∧ decode cL_law 29 = .ok (.iaload, 1) ∧ decode cL_law 30 = .ok (.bipush 63, 2) ∧ decode cL_law 32 = .ok (.iand, 1) ∧ True := dkl_ok (c := cL_law) [(.aload_n 0, 1), (.iload_n 3, 1), (.iaload, 1), (.bipush 63, 2), (.iand, 1)] 27 (by decide +kernel)
theorem dL_law_27 : decode cL_law 27 = .ok (.aload_n 0, 1) := eL_law_27.1
theorem dL_law_28 : decode cL_law 28 = .ok (.iload_n 3, 1) := eL_law_27.2.1
theorem dL_law_29 : decode cL_law 29 = .ok (.iaload, 1) := eL_law_27.2.2.1
theorem dL_law_30 : decode cL_law 30 = .ok (.bipush 63, 2) := eL_law_27.2.2.2.1
theorem dL_law_32 : decode cL_law 32 = .ok (.iand, 1) := eL_law_27.2.2.2.2.1
theorem dL_law_33 : decode cL_law 33 = .ok (.tableswitch 1763 0 53 #[231, 244, 257, 270, 313, 386, 419, 482, 545, 568, 591, 614, 637, 670, 703, 726, 759, 792, 825, 878, 891, 914, 957, 990, 1023, 1046, 1069, 1092, 1115, 1138, 1151, 1184, 1217, 1240, 1273, 1306, 1329, 1352, 1375, 1388, 1421, 1444, 1467, 1490, 1533, 1546, 1569, 1592, 1605, 1628, 1651, 1694, 1737, 1750], 231) := d_of (by decide +kernel)
theorem eL_law_264 : decode cL_law 264 = .ok (.aload_n 1, 1) ∧ decode cL_law 265 = .ok (.invokevirtual 13, 3) ∧ decode cL_law 268 = .ok (.pop, 1) ∧ decode cL_law 269 = .ok (.aload_n 2, 1) ∧ decode cL_law 270 = .ok (.invokevirtual 17, 3) ∧ decode cL_law 273 = .ok (.pop, 1) ∧ decode cL_law 274 = .ok (.goto 1522, 3) ∧ decode cL_law 277 = .ok (.aload_n 1, 1) ∧ True := dkl_ok (c := cL_law) [(.aload_n 1, 1), (.invokevirtual 13, 3), (.pop, 1), (.aload_n 2, 1), (.invokevirtual 17, 3), (.pop, 1), (.goto 1522, 3), (.aload_n 1, 1)] 264 (by decide +kernel)
theorem dL_law_264 : decode cL_law 264 = .ok (.aload_n 1, 1) := eL_law_264.1
theorem dL_law_265 : decode cL_law 265 = .ok (.invokevirtual 13, 3) := eL_law_264.2.1
theorem dL_law_268 : decode cL_law 268 = .ok (.pop, 1) := eL_law_264.2.2.1
theorem dL_law_269 : decode cL_law 269 = .ok (.aload_n 2, 1) := eL_law_264.2.2.2.1
theorem dL_law_270 : decode cL_law 270 = .ok (.invokevirtual 17, 3) := eL_law_264.2.2.2.2.1
theorem dL_law_273 : decode cL_law 273 = .ok (.pop, 1) := eL_law_264.2.2.2.2.2.1
theorem dL_law_274 : decode cL_law 274 = .ok (.goto 1522, 3) := eL_law_264.2.2.2.2.2.2.1
theorem dL_law_277 : decode cL_law 277 = .ok (.aload_n 1, 1) := eL_law_264.2.2.2.2.2.2.2.1
theorem eL_law_278 : decode cL_law 278 = .ok (.invokevirtual 18, 3) ∧ decode cL_law 281 = .ok (.pop2, 1) ∧ decode cL_law 282 = .ok (.aload_n 2, 1) ∧ decode cL_law 283 = .ok (.invokevirtual 22, 3) ∧ decode cL_law 286 = .ok (.pop2, 1) ∧ decode cL_law 287 = .ok (.goto 1509, 3) ∧ decode cL_law 290 = .ok (.aload_n 1, 1) ∧ decode cL_law 291 = .ok (.invokevirtual 23, 3) ∧ True := dkl_ok (c := cL_law) [(.invokevirtual 18, 3), (.pop2, 1), (.aload_n 2, 1), (.invokevirtual 22, 3), (.pop2, 1), (.goto 1509, 3), (.aload_n 1, 1), (.invokevirtual 23, 3)] 278 (by decide +kernel)
theorem dL_law_278 : decode cL_law 278 = .ok (.invokevirtual 18, 3) := eL_law_278.1
theorem dL_law_281 : decode cL_law 281 = .ok (.pop2, 1) := eL_law_278.2.1
theorem dL_law_282 : decode cL_law 282 = .ok (.aload_n 2, 1) := eL_law_278.2.2.1
theorem dL_law_283 : decode cL_law 283 = .ok (.invokevirtual 22, 3) := eL_law_278.2.2.2.1
theorem dL_law_286 : decode cL_law 286 = .ok (.pop2, 1) := eL_law_278.2.2.2.2.1
theorem dL_law_287 : decode cL_law 287 = .ok (.goto 1509, 3) := eL_law_278.2.2.2.2.2.1
theorem dL_law_290 : decode cL_law 290 = .ok (.aload_n 1, 1) := eL_law_278.2.2.2.2.2.2.1
theorem dL_law_291 : decode cL_law 291 = .ok (.invokevirtual 23, 3) := eL_law_278.2.2.2.2.2.2.2.1
theorem eL_law_294 : decode cL_law 294 = .ok (.pop2, 1) ∧ decode cL_law 295 = .ok (.aload_n 2, 1) ∧ decode cL_law 296 = .ok (.invokevirtual 26, 3) ∧ decode cL_law 299 = .ok (.pop2, 1) ∧ decode cL_law 300 = .ok (.goto 1496, 3) ∧ decode cL_law 303 = .ok (.aload_n 1, 1) ∧ decode cL_law 304 = .ok (.aload_n 0, 1) ∧ decode cL_law 305 = .ok (.iload_n 3, 1) ∧ True := dkl_ok (c := cL_law) [(.pop2, 1), (.aload_n 2, 1), (.invokevirtual 26, 3), (.pop2, 1), (.goto 1496, 3), (.aload_n 1, 1), (.aload_n 0, 1), (.iload_n 3, 1)] 294 (by decide +kernel)
theorem dL_law_294 : decode cL_law 294 = .ok (.pop2, 1) := eL_law_294.1
theorem dL_law_295 : decode cL_law 295 = .ok (.aload_n 2, 1) := eL_law_294.2.1
theorem dL_law_296 : decode cL_law 296 = .ok (.invokevirtual 26, 3) := eL_law_294.2.2.1
theorem dL_law_299 : decode cL_law 299 = .ok (.pop2, 1) := eL_law_294.2.2.2.1
theorem dL_law_300 : decode cL_law 300 = .ok (.goto 1496, 3) := eL_law_294.2.2.2.2.1
theorem dL_law_303 : decode cL_law 303 = .ok (.aload_n 1, 1) := eL_law_294.2.2.2.2.2.1
theorem dL_law_304 : decode cL_law 304 = .ok (.aload_n 0, 1) := eL_law_294.2.2.2.2.2.2.1
theorem dL_law_305 : decode cL_law 305 = .ok (.iload_n 3, 1) := eL_law_294.2.2.2.2.2.2.2.1
theorem eL_law_306 : decode cL_law 306 = .ok (.iconst 1, 1) ∧ decode cL_law 307 = .ok (.iadd, 1) ∧ decode cL_law 308 = .ok (.iaload, 1) ∧ decode cL_law 309 = .ok (.aload_n 0, 1) ∧ decode cL_law 310 = .ok (.iload_n 3, 1) ∧ decode cL_law 311 = .ok (.iconst 2, 1) ∧ decode cL_law 312 = .ok (.iadd, 1) ∧ decode cL_law 313 = .ok (.iaload, 1) ∧ True := dkl_ok (c := cL_law) [(.iconst 1, 1), (.iadd, 1), (.iaload, 1), (.aload_n 0, 1), (.iload_n 3, 1), (.iconst 2, 1), (.iadd, 1), (.iaload, 1)] 306 (by decide +kernel)
theorem dL_law_306 : decode cL_law 306 = .ok (.iconst 1, 1) := eL_law_306.1
theorem dL_law_307 : decode cL_law 307 = .ok (.iadd, 1) := eL_law_306.2.1
theorem dL_law_308 : decode cL_law 308 = .ok (.iaload, 1) := eL_law_306.2.2.1
theorem dL_law_309 : decode cL_law 309 = .ok (.aload_n 0, 1) := eL_law_306.2.2.2.1
theorem dL_law_310 : decode cL_law 310 = .ok (.iload_n 3, 1) := eL_law_306.2.2.2.2.1
theorem dL_law_311 : decode cL_law 311 = .ok (.iconst 2, 1) := eL_law_306.2.2.2.2.2.1
theorem dL_law_312 : decode cL_law 312 = .ok (.iadd, 1) := eL_law_306.2.2.2.2.2.2.1
theorem dL_law_313 : decode cL_law 313 = .ok (.iaload, 1) := eL_law_306.2.2.2.2.2.2.2.1
theorem eL_law_314 : decode cL_law 314 = .ok (.aload_n 0, 1) ∧ decode cL_law 315 = .ok (.iload_n 3, 1) ∧ decode cL_law 316 = .ok (.iconst 3, 1) ∧ decode cL_law 317 = .ok (.iadd, 1) ∧ decode cL_law 318 = .ok (.iaload, 1) ∧ decode cL_law 319 = .ok (.invokevirtual 27, 3) ∧ decode cL_law 322 = .ok (.pop, 1) ∧ decode cL_law 323 = .ok (.aload_n 2, 1) ∧ True := dkl_ok (c := cL_law) [(.aload_n 0, 1), (.iload_n 3, 1), (.iconst 3, 1), (.iadd, 1), (.iaload, 1), (.invokevirtual 27, 3), (.pop, 1), (.aload_n 2, 1)] 314 (by decide +kernel)
theorem dL_law_314 : decode cL_law 314 = .ok (.aload_n 0, 1) := eL_law_314.1
theorem dL_law_315 : decode cL_law 315 = .ok (.iload_n 3, 1) := eL_law_314.2.1
theorem dL_law_316 : decode cL_law 316 = .ok (.iconst 3, 1) := eL_law_314.2.2.1
theorem dL_law_317 : decode cL_law 317 = .ok (.iadd, 1) := eL_law_314.2.2.2.1
theorem dL_law_318 : decode cL_law 318 = .ok (.iaload, 1) := eL_law_314.2.2.2.2.1
theorem dL_law_319 : decode cL_law 319 = .ok (.invokevirtual 27, 3) := eL_law_314.2.2.2.2.2.1
theorem dL_law_322 : decode cL_law 322 = .ok (.pop, 1) := eL_law_314.2.2.2.2.2.2.1
theorem dL_law_323 : decode cL_law 323 = .ok (.aload_n 2, 1) := eL_law_314.2.2.2.2.2.2.2.1
theorem eL_law_324 : decode cL_law 324 = .ok (.aload_n 0, 1) ∧ decode cL_law 325 = .ok (.iload_n 3, 1) ∧ decode cL_law 326 = .ok (.iconst 1, 1) ∧ decode cL_law 327 = .ok (.iadd, 1) ∧ decode cL_law 328 = .ok (.iaload, 1) ∧ decode cL_law 329 = .ok (.aload_n 0, 1) ∧ decode cL_law 330 = .ok (.iload_n 3, 1) ∧ decode cL_law 331 = .ok (.iconst 2, 1) ∧ True := dkl_ok (c := cL_law) [(.aload_n 0, 1), (.iload_n 3, 1), (.iconst 1, 1), (.iadd, 1), (.iaload, 1), (.aload_n 0, 1), (.iload_n 3, 1), (.iconst 2, 1)] 324 (by decide +kernel)
theorem dL_law_324 : decode cL_law 324 = .ok (.aload_n 0, 1) := eL_law_324.1
theorem dL_law_325 : decode cL_law 325 = .ok (.iload_n 3, 1) := eL_law_324.2.1
theorem dL_law_326 : decode cL_law 326 = .ok (.iconst 1, 1) := eL_law_324.2.2.1
theorem dL_law_327 : decode cL_law 327 = .ok (.iadd, 1) := eL_law_324.2.2.2.1
theorem dL_law_328 : decode cL_law 328 = .ok (.iaload, 1) := eL_law_324.2.2.2.2.1
theorem dL_law_329 : decode cL_law 329 = .ok (.aload_n 0, 1) := eL_law_324.2.2.2.2.2.1
theorem dL_law_330 : decode cL_law 330 = .ok (.iload_n 3, 1) := eL_law_324.2.2.2.2.2.2.1
theorem dL_law_331 : decode cL_law 331 = .ok (.iconst 2, 1) := eL_law_324.2.2.2.2.2.2.2.1
theorem eL_law_332 : decode cL_law 332 = .ok (.iadd, 1) ∧ decode cL_law 333 = .ok (.iaload, 1) ∧ decode cL_law 334 = .ok (.aload_n 0, 1) ∧ decode cL_law 335 = .ok (.iload_n 3, 1) ∧ decode cL_law 336 = .ok (.iconst 3, 1) ∧ decode cL_law 337 = .ok (.iadd, 1) ∧ decode cL_law 338 = .ok (.iaload, 1) ∧ decode cL_law 339 = .ok (.invokevirtual 31, 3) ∧ True := dkl_ok (c := cL_law) [(.iadd, 1), (.iaload, 1), (.aload_n 0, 1), (.iload_n 3, 1), (.iconst 3, 1), (.iadd, 1), (.iaload, 1), (.invokevirtual 31, 3)] 332 (by decide +kernel)
theorem dL_law_332 : decode cL_law 332 = .ok (.iadd, 1) := eL_law_332.1
theorem dL_law_333 : decode cL_law 333 = .ok (.iaload, 1) := eL_law_332.2.1
theorem dL_law_334 : decode cL_law 334 = .ok (.aload_n 0, 1) := eL_law_332.2.2.1
theorem dL_law_335 : decode cL_law 335 = .ok (.iload_n 3, 1) := eL_law_332.2.2.2.1
theorem dL_law_336 : decode cL_law 336 = .ok (.iconst 3, 1) := eL_law_332.2.2.2.2.1
theorem dL_law_337 : decode cL_law 337 = .ok (.iadd, 1) := eL_law_332.2.2.2.2.2.1
theorem dL_law_338 : decode cL_law 338 = .ok (.iaload, 1) := eL_law_332.2.2.2.2.2.2.1
theorem dL_law_339 : decode cL_law 339 = .ok (.invokevirtual 31, 3) := eL_law_332.2.2.2.2.2.2.2.1
theorem eL_law_342 : decode cL_law 342 = .ok (.pop, 1) ∧ decode cL_law 343 = .ok (.goto 1453, 3) ∧ decode cL_law 346 = .ok (.aload_n 1, 1) ∧ decode cL_law 347 = .ok (.aload_n 0, 1) ∧ decode cL_law 348 = .ok (.iload_n 3, 1) ∧ decode cL_law 349 = .ok (.iconst 1, 1) ∧ decode cL_law 350 = .ok (.iadd, 1) ∧ decode cL_law 351 = .ok (.iaload, 1) ∧ True := dkl_ok (c := cL_law) [(.pop, 1), (.goto 1453, 3), (.aload_n 1, 1), (.aload_n 0, 1), (.iload_n 3, 1), (.iconst 1, 1), (.iadd, 1), (.iaload, 1)] 342 (by decide +kernel)
theorem dL_law_342 : decode cL_law 342 = .ok (.pop, 1) := eL_law_342.1
theorem dL_law_343 : decode cL_law 343 = .ok (.goto 1453, 3) := eL_law_342.2.1
theorem dL_law_346 : decode cL_law 346 = .ok (.aload_n 1, 1) := eL_law_342.2.2.1
theorem dL_law_347 : decode cL_law 347 = .ok (.aload_n 0, 1) := eL_law_342.2.2.2.1
theorem dL_law_348 : decode cL_law 348 = .ok (.iload_n 3, 1) := eL_law_342.2.2.2.2.1
theorem dL_law_349 : decode cL_law 349 = .ok (.iconst 1, 1) := eL_law_342.2.2.2.2.2.1
theorem dL_law_350 : decode cL_law 350 = .ok (.iadd, 1) := eL_law_342.2.2.2.2.2.2.1
theorem dL_law_351 : decode cL_law 351 = .ok (.iaload, 1) := eL_law_342.2.2.2.2.2.2.2.1
theorem eL_law_352 : decode cL_law 352 = .ok (.aload_n 0, 1) ∧ decode cL_law 353 = .ok (.iload_n 3, 1) ∧ decode cL_law 354 = .ok (.iconst 2, 1) ∧ decode cL_law 355 = .ok (.iadd, 1) ∧ decode cL_law 356 = .ok (.iaload, 1) ∧ decode cL_law 357 = .ok (.aload_n 0, 1) ∧ decode cL_law 358 = .ok (.iload_n 3, 1) ∧ decode cL_law 359 = .ok (.iconst 3, 1) ∧ True := dkl_ok (c := cL_law) [(.aload_n 0, 1), (.iload_n 3, 1), (.iconst 2, 1), (.iadd, 1), (.iaload, 1), (.aload_n 0, 1), (.iload_n 3, 1), (.iconst 3, 1)] 352 (by decide +kernel)
theorem dL_law_352 : decode cL_law 352 = .ok (.aload_n 0, 1) := eL_law_352.1
theorem dL_law_353 : decode cL_law 353 = .ok (.iload_n 3, 1) := eL_law_352.2.1
theorem dL_law_354 : decode cL_law 354 = .ok (.iconst 2, 1) := eL_law_352.2.2.1
theorem dL_law_355 : decode cL_law 355 = .ok (.iadd, 1) := eL_law_352.2.2.2.1
theorem dL_law_356 : decode cL_law 356 = .ok (.iaload, 1) := eL_law_352.2.2.2.2.1
theorem dL_law_357 : decode cL_law 357 = .ok (.aload_n 0, 1) := eL_law_352.2.2.2.2.2.1
theorem dL_law_358 : decode cL_law 358 = .ok (.iload_n 3, 1) := eL_law_352.2.2.2.2.2.2.1
theorem dL_law_359 : decode cL_law 359 = .ok (.iconst 3, 1) := eL_law_352.2.2.2.2.2.2.2.1
theorem eL_law_360 : decode cL_law 360 = .ok (.iadd, 1) ∧ decode cL_law 361 = .ok (.iaload, 1) ∧ decode cL_law 362 = .ok (.i2l, 1) ∧ decode cL_law 363 = .ok (.bipush 32, 2) ∧ decode cL_law 365 = .ok (.lshl, 1) ∧ decode cL_law 366 = .ok (.aload_n 0, 1) ∧ decode cL_law 367 = .ok (.iload_n 3, 1) ∧ decode cL_law 368 = .ok (.iconst 4, 1) ∧ True := dkl_ok (c := cL_law) [(.iadd, 1), (.iaload, 1), (.i2l, 1), (.bipush 32, 2), (.lshl, 1), (.aload_n 0, 1), (.iload_n 3, 1), (.iconst 4, 1)] 360 (by decide +kernel)
theorem dL_law_360 : decode cL_law 360 = .ok (.iadd, 1) := eL_law_360.1
theorem dL_law_361 : decode cL_law 361 = .ok (.iaload, 1) := eL_law_360.2.1
theorem dL_law_362 : decode cL_law 362 = .ok (.i2l, 1) := eL_law_360.2.2.1
theorem dL_law_363 : decode cL_law 363 = .ok (.bipush 32, 2) := eL_law_360.2.2.2.1
theorem dL_law_365 : decode cL_law 365 = .ok (.lshl, 1) := eL_law_360.2.2.2.2.1
theorem dL_law_366 : decode cL_law 366 = .ok (.aload_n 0, 1) := eL_law_360.2.2.2.2.2.1
theorem dL_law_367 : decode cL_law 367 = .ok (.iload_n 3, 1) := eL_law_360.2.2.2.2.2.2.1
theorem dL_law_368 : decode cL_law 368 = .ok (.iconst 4, 1) := eL_law_360.2.2.2.2.2.2.2.1
theorem eL_law_369 : decode cL_law 369 = .ok (.iadd, 1) ∧ decode cL_law 370 = .ok (.iaload, 1) ∧ decode cL_law 371 = .ok (.i2l, 1) ∧ decode cL_law 372 = .ok (.ldc2_w 32, 3) ∧ decode cL_law 375 = .ok (.land, 1) ∧ decode cL_law 376 = .ok (.lor, 1) ∧ decode cL_law 377 = .ok (.invokevirtual 34, 3) ∧ decode cL_law 380 = .ok (.pop, 1) ∧ True := dkl_ok (c := cL_law) [(.iadd, 1), (.iaload, 1), (.i2l, 1), (.ldc2_w 32, 3), (.land, 1), (.lor, 1), (.invokevirtual 34, 3), (.pop, 1)] 369 (by decide +kernel)
theorem dL_law_369 : decode cL_law 369 = .ok (.iadd, 1) := eL_law_369.1
theorem dL_law_370 : decode cL_law 370 = .ok (.iaload, 1) := eL_law_369.2.1
theorem dL_law_371 : decode cL_law 371 = .ok (.i2l, 1) := eL_law_369.2.2.1
theorem dL_law_372 : decode cL_law 372 = .ok (.ldc2_w 32, 3) := eL_law_369.2.2.2.1
theorem dL_law_375 : decode cL_law 375 = .ok (.land, 1) := eL_law_369.2.2.2.2.1
theorem dL_law_376 : decode cL_law 376 = .ok (.lor, 1) := eL_law_369.2.2.2.2.2.1
theorem dL_law_377 : decode cL_law 377 = .ok (.invokevirtual 34, 3) := eL_law_369.2.2.2.2.2.2.1
theorem dL_law_380 : decode cL_law 380 = .ok (.pop, 1) := eL_law_369.2.2.2.2.2.2.2.1
theorem eL_law_381 : decode cL_law 381 = .ok (.aload_n 2, 1) ∧ decode cL_law 382 = .ok (.aload_n 0, 1) ∧ decode cL_law 383 = .ok (.iload_n 3, 1) ∧ decode cL_law 384 = .ok (.iconst 1, 1) ∧ decode cL_law 385 = .ok (.iadd, 1) ∧ decode cL_law 386 = .ok (.iaload, 1) ∧ decode cL_law 387 = .ok (.aload_n 0, 1) ∧ decode cL_law 388 = .ok (.iload_n 3, 1) ∧ True := dkl_ok (c := cL_law) [(.aload_n 2, 1), (.aload_n 0, 1), (.iload_n 3, 1), (.iconst 1, 1), (.iadd, 1), (.iaload, 1), (.aload_n 0, 1), (.iload_n 3, 1)] 381 (by decide +kernel)
theorem dL_law_381 : decode cL_law 381 = .ok (.aload_n 2, 1) := eL_law_381.1
theorem dL_law_382 : decode cL_law 382 = .ok (.aload_n 0, 1) := eL_law_381.2.1
theorem dL_law_383 : decode cL_law 383 = .ok (.iload_n 3, 1) := eL_law_381.2.2.1
theorem dL_law_384 : decode cL_law 384 = .ok (.iconst 1, 1) := eL_law_381.2.2.2.1
theorem dL_law_385 : decode cL_law 385 = .ok (.iadd, 1) := eL_law_381.2.2.2.2.1
theorem dL_law_386 : decode cL_law 386 = .ok (.iaload, 1) := eL_law_381.2.2.2.2.2.1
theorem dL_law_387 : decode cL_law 387 = .ok (.aload_n 0, 1) := eL_law_381.2.2.2.2.2.2.1
theorem dL_law_388 : decode cL_law 388 = .ok (.iload_n 3, 1) := eL_law_381.2.2.2.2.2.2.2.1
theorem eL_law_389 : decode cL_law 389 = .ok (.iconst 2, 1) ∧ decode cL_law 390 = .ok (.iadd, 1) ∧ decode cL_law 391 = .ok (.iaload, 1) ∧ decode cL_law 392 = .ok (.aload_n 0, 1) ∧ decode cL_law 393 = .ok (.iload_n 3, 1) ∧ decode cL_law 394 = .ok (.iconst 3, 1) ∧ decode cL_law 395 = .ok (.iadd, 1) ∧ decode cL_law 396 = .ok (.iaload, 1) ∧ True := dkl_ok (c := cL_law) [(.iconst 2, 1), (.iadd, 1), (.iaload, 1), (.aload_n 0, 1), (.iload_n 3, 1), (.iconst 3, 1), (.iadd, 1), (.iaload, 1)] 389 (by decide +kernel)
theorem dL_law_389 : decode cL_law 389 = .ok (.iconst 2, 1) := eL_law_389.1
theorem dL_law_390 : decode cL_law 390 = .ok (.iadd, 1) := eL_law_389.2.1
theorem dL_law_391 : decode cL_law 391 = .ok (.iaload, 1) := eL_law_389.2.2.1
theorem dL_law_392 : decode cL_law 392 = .ok (.aload_n 0, 1) := eL_law_389.2.2.2.1
theorem dL_law_393 : decode cL_law 393 = .ok (.iload_n 3, 1) := eL_law_389.2.2.2.2.1
theorem dL_law_394 : decode cL_law 394 = .ok (.iconst 3, 1) := eL_law_389.2.2.2.2.2.1
theorem dL_law_395 : decode cL_law 395 = .ok (.iadd, 1) := eL_law_389.2.2.2.2.2.2.1
theorem dL_law_396 : decode cL_law 396 = .ok (.iaload, 1) := eL_law_389.2.2.2.2.2.2.2.1
theorem eL_law_397 : decode cL_law 397 = .ok (.i2l, 1) ∧ decode cL_law 398 = .ok (.bipush 32, 2) ∧ decode cL_law 400 = .ok (.lshl, 1) ∧ decode cL_law 401 = .ok (.aload_n 0, 1) ∧ decode cL_law 402 = .ok (.iload_n 3, 1) ∧ decode cL_law 403 = .ok (.iconst 4, 1) ∧ decode cL_law 404 = .ok (.iadd, 1) ∧ decode cL_law 405 = .ok (.iaload, 1) ∧ True := dkl_ok (c := cL_law) [(.i2l, 1), (.bipush 32, 2), (.lshl, 1), (.aload_n 0, 1), (.iload_n 3, 1), (.iconst 4, 1), (.iadd, 1), (.iaload, 1)] 397 (by decide +kernel)
theorem dL_law_397 : decode cL_law 397 = .ok (.i2l, 1) := eL_law_397.1
theorem dL_law_398 : decode cL_law 398 = .ok (.bipush 32, 2) := eL_law_397.2.1
theorem dL_law_400 : decode cL_law 400 = .ok (.lshl, 1) := eL_law_397.2.2.1
theorem dL_law_401 : decode cL_law 401 = .ok (.aload_n 0, 1) := eL_law_397.2.2.2.1
theorem dL_law_402 : decode cL_law 402 = .ok (.iload_n 3, 1) := eL_law_397.2.2.2.2.1
theorem dL_law_403 : decode cL_law 403 = .ok (.iconst 4, 1) := eL_law_397.2.2.2.2.2.1
theorem dL_law_404 : decode cL_law 404 = .ok (.iadd, 1) := eL_law_397.2.2.2.2.2.2.1
theorem dL_law_405 : decode cL_law 405 = .ok (.iaload, 1) := eL_law_397.2.2.2.2.2.2.2.1
theorem eL_law_406 : decode cL_law 406 = .ok (.i2l, 1) ∧ decode cL_law 407 = .ok (.ldc2_w 32, 3) ∧ decode cL_law 410 = .ok (.land, 1) ∧ decode cL_law 411 = .ok (.lor, 1) ∧ decode cL_law 412 = .ok (.invokevirtual 38, 3) ∧ decode cL_law 415 = .ok (.pop, 1) ∧ decode cL_law 416 = .ok (.goto 1380, 3) ∧ decode cL_law 419 = .ok (.aload_n 1, 1) ∧ True := dkl_ok (c := cL_law) [(.i2l, 1), (.ldc2_w 32, 3), (.land, 1), (.lor, 1), (.invokevirtual 38, 3), (.pop, 1), (.goto 1380, 3), (.aload_n 1, 1)] 406 (by decide +kernel)
theorem dL_law_406 : decode cL_law 406 = .ok (.i2l, 1) := eL_law_406.1
theorem dL_law_407 : decode cL_law 407 = .ok (.ldc2_w 32, 3) := eL_law_406.2.1
theorem dL_law_410 : decode cL_law 410 = .ok (.land, 1) := eL_law_406.2.2.1
theorem dL_law_411 : decode cL_law 411 = .ok (.lor, 1) := eL_law_406.2.2.2.1
theorem dL_law_412 : decode cL_law 412 = .ok (.invokevirtual 38, 3) := eL_law_406.2.2.2.2.1
theorem dL_law_415 : decode cL_law 415 = .ok (.pop, 1) := eL_law_406.2.2.2.2.2.1
theorem dL_law_416 : decode cL_law 416 = .ok (.goto 1380, 3) := eL_law_406.2.2.2.2.2.2.1
theorem dL_law_419 : decode cL_law 419 = .ok (.aload_n 1, 1) := eL_law_406.2.2.2.2.2.2.2.1
theorem eL_law_420 : decode cL_law 420 = .ok (.aload_n 0, 1) ∧ decode cL_law 421 = .ok (.iload_n 3, 1) ∧ decode cL_law 422 = .ok (.iconst 1, 1) ∧ decode cL_law 423 = .ok (.iadd, 1) ∧ decode cL_law 424 = .ok (.iaload, 1) ∧ decode cL_law 425 = .ok (.aload_n 0, 1) ∧ decode cL_law 426 = .ok (.iload_n 3, 1) ∧ decode cL_law 427 = .ok (.iconst 2, 1) ∧ True := dkl_ok (c := cL_law) [(.aload_n 0, 1), (.iload_n 3, 1), (.iconst 1, 1), (.iadd, 1), (.iaload, 1), (.aload_n 0, 1), (.iload_n 3, 1), (.iconst 2, 1)] 420 (by decide +kernel)
theorem dL_law_420 : decode cL_law 420 = .ok (.aload_n 0, 1) := eL_law_420.1
theorem dL_law_421 : decode cL_law 421 = .ok (.iload_n 3, 1) := eL_law_420.2.1
theorem dL_law_422 : decode cL_law 422 = .ok (.iconst 1, 1) := eL_law_420.2.2.1
theorem dL_law_423 : decode cL_law 423 = .ok (.iadd, 1) := eL_law_420.2.2.2.1
theorem dL_law_424 : decode cL_law 424 = .ok (.iaload, 1) := eL_law_420.2.2.2.2.1
theorem dL_law_425 : decode cL_law 425 = .ok (.aload_n 0, 1) := eL_law_420.2.2.2.2.2.1
theorem dL_law_426 : decode cL_law 426 = .ok (.iload_n 3, 1) := eL_law_420.2.2.2.2.2.2.1
theorem dL_law_427 : decode cL_law 427 = .ok (.iconst 2, 1) := eL_law_420.2.2.2.2.2.2.2.1
theorem eL_law_428 : decode cL_law 428 = .ok (.iadd, 1) ∧ decode cL_law 429 = .ok (.iaload, 1) ∧ decode cL_law 430 = .ok (.invokevirtual 39, 3) ∧ decode cL_law 433 = .ok (.pop2, 1) ∧ decode cL_law 434 = .ok (.aload_n 2, 1) ∧ decode cL_law 435 = .ok (.aload_n 0, 1) ∧ decode cL_law 436 = .ok (.iload_n 3, 1) ∧ decode cL_law 437 = .ok (.iconst 1, 1) ∧ True := dkl_ok (c := cL_law) [(.iadd, 1), (.iaload, 1), (.invokevirtual 39, 3), (.pop2, 1), (.aload_n 2, 1), (.aload_n 0, 1), (.iload_n 3, 1), (.iconst 1, 1)] 428 (by decide +kernel)
theorem dL_law_428 : decode cL_law 428 = .ok (.iadd, 1) := eL_law_428.1
theorem dL_law_429 : decode cL_law 429 = .ok (.iaload, 1) := eL_law_428.2.1
theorem dL_law_430 : decode cL_law 430 = .ok (.invokevirtual 39, 3) := eL_law_428.2.2.1
theorem dL_law_433 : decode cL_law 433 = .ok (.pop2, 1) := eL_law_428.2.2.2.1
theorem dL_law_434 : decode cL_law 434 = .ok (.aload_n 2, 1) := eL_law_428.2.2.2.2.1
theorem dL_law_435 : decode cL_law 435 = .ok (.aload_n 0, 1) := eL_law_428.2.2.2.2.2.1
theorem dL_law_436 : decode cL_law 436 = .ok (.iload_n 3, 1) := eL_law_428.2.2.2.2.2.2.1
theorem dL_law_437 : decode cL_law 437 = .ok (.iconst 1, 1) := eL_law_428.2.2.2.2.2.2.2.1
theorem eL_law_438 : decode cL_law 438 = .ok (.iadd, 1) ∧ decode cL_law 439 = .ok (.iaload, 1) ∧ decode cL_law 440 = .ok (.aload_n 0, 1) ∧ decode cL_law 441 = .ok (.iload_n 3, 1) ∧ decode cL_law 442 = .ok (.iconst 2, 1) ∧ decode cL_law 443 = .ok (.iadd, 1) ∧ decode cL_law 444 = .ok (.iaload, 1) ∧ decode cL_law 445 = .ok (.invokevirtual 43, 3) ∧ True := dkl_ok (c := cL_law) [(.iadd, 1), (.iaload, 1), (.aload_n 0, 1), (.iload_n 3, 1), (.iconst 2, 1), (.iadd, 1), (.iaload, 1), (.invokevirtual 43, 3)] 438 (by decide +kernel)
theorem dL_law_438 : decode cL_law 438 = .ok (.iadd, 1) := eL_law_438.1
theorem dL_law_439 : decode cL_law 439 = .ok (.iaload, 1) := eL_law_438.2.1
theorem dL_law_440 : decode cL_law 440 = .ok (.aload_n 0, 1) := eL_law_438.2.2.1
theorem dL_law_441 : decode cL_law 441 = .ok (.iload_n 3, 1) := eL_law_438.2.2.2.1
theorem dL_law_442 : decode cL_law 442 = .ok (.iconst 2, 1) := eL_law_438.2.2.2.2.1
theorem dL_law_443 : decode cL_law 443 = .ok (.iadd, 1) := eL_law_438.2.2.2.2.2.1
theorem dL_law_444 : decode cL_law 444 = .ok (.iaload, 1) := eL_law_438.2.2.2.2.2.2.1
theorem dL_law_445 : decode cL_law 445 = .ok (.invokevirtual 43, 3) := eL_law_438.2.2.2.2.2.2.2.1
theorem eL_law_448 : decode cL_law 448 = .ok (.pop2, 1) ∧ decode cL_law 449 = .ok (.goto 1347, 3) ∧ decode cL_law 452 = .ok (.aload_n 1, 1) ∧ decode cL_law 453 = .ok (.aload_n 0, 1) ∧ decode cL_law 454 = .ok (.iload_n 3, 1) ∧ decode cL_law 455 = .ok (.iconst 1, 1) ∧ decode cL_law 456 = .ok (.iadd, 1) ∧ decode cL_law 457 = .ok (.iaload, 1) ∧ True := dkl_ok (c := cL_law) [(.pop2, 1), (.goto 1347, 3), (.aload_n 1, 1), (.aload_n 0, 1), (.iload_n 3, 1), (.iconst 1, 1), (.iadd, 1), (.iaload, 1)] 448 (by decide +kernel)
theorem dL_law_448 : decode cL_law 448 = .ok (.pop2, 1) := eL_law_448.1
theorem dL_law_449 : decode cL_law 449 = .ok (.goto 1347, 3) := eL_law_448.2.1
theorem dL_law_452 : decode cL_law 452 = .ok (.aload_n 1, 1) := eL_law_448.2.2.1
theorem dL_law_453 : decode cL_law 453 = .ok (.aload_n 0, 1) := eL_law_448.2.2.2.1
theorem dL_law_454 : decode cL_law 454 = .ok (.iload_n 3, 1) := eL_law_448.2.2.2.2.1
theorem dL_law_455 : decode cL_law 455 = .ok (.iconst 1, 1) := eL_law_448.2.2.2.2.2.1
theorem dL_law_456 : decode cL_law 456 = .ok (.iadd, 1) := eL_law_448.2.2.2.2.2.2.1
theorem dL_law_457 : decode cL_law 457 = .ok (.iaload, 1) := eL_law_448.2.2.2.2.2.2.2.1
theorem eL_law_458 : decode cL_law 458 = .ok (.aload_n 0, 1) ∧ decode cL_law 459 = .ok (.iload_n 3, 1) ∧ decode cL_law 460 = .ok (.iconst 2, 1) ∧ decode cL_law 461 = .ok (.iadd, 1) ∧ decode cL_law 462 = .ok (.iaload, 1) ∧ decode cL_law 463 = .ok (.aload_n 0, 1) ∧ decode cL_law 464 = .ok (.iload_n 3, 1) ∧ decode cL_law 465 = .ok (.iconst 3, 1) ∧ True := dkl_ok (c := cL_law) [(.aload_n 0, 1), (.iload_n 3, 1), (.iconst 2, 1), (.iadd, 1), (.iaload, 1), (.aload_n 0, 1), (.iload_n 3, 1), (.iconst 3, 1)] 458 (by decide +kernel)
theorem dL_law_458 : decode cL_law 458 = .ok (.aload_n 0, 1) := eL_law_458.1
theorem dL_law_459 : decode cL_law 459 = .ok (.iload_n 3, 1) := eL_law_458.2.1
theorem dL_law_460 : decode cL_law 460 = .ok (.iconst 2, 1) := eL_law_458.2.2.1
theorem dL_law_461 : decode cL_law 461 = .ok (.iadd, 1) := eL_law_458.2.2.2.1
theorem dL_law_462 : decode cL_law 462 = .ok (.iaload, 1) := eL_law_458.2.2.2.2.1
theorem dL_law_463 : decode cL_law 463 = .ok (.aload_n 0, 1) := eL_law_458.2.2.2.2.2.1
theorem dL_law_464 : decode cL_law 464 = .ok (.iload_n 3, 1) := eL_law_458.2.2.2.2.2.2.1
theorem dL_law_465 : decode cL_law 465 = .ok (.iconst 3, 1) := eL_law_458.2.2.2.2.2.2.2.1
theorem eL_law_466 : decode cL_law 466 = .ok (.iadd, 1) ∧ decode cL_law 467 = .ok (.iaload, 1) ∧ decode cL_law 468 = .ok (.aload_n 0, 1) ∧ decode cL_law 469 = .ok (.iload_n 3, 1) ∧ decode cL_law 470 = .ok (.iconst 4, 1) ∧ decode cL_law 471 = .ok (.iadd, 1) ∧ decode cL_law 472 = .ok (.iaload, 1) ∧ decode cL_law 473 = .ok (.aload_n 0, 1) ∧ True := dkl_ok (c := cL_law) [(.iadd, 1), (.iaload, 1), (.aload_n 0, 1), (.iload_n 3, 1), (.iconst 4, 1), (.iadd, 1), (.iaload, 1), (.aload_n 0, 1)] 466 (by decide +kernel)
theorem dL_law_466 : decode cL_law 466 = .ok (.iadd, 1) := eL_law_466.1
theorem dL_law_467 : decode cL_law 467 = .ok (.iaload, 1) := eL_law_466.2.1
theorem dL_law_468 : decode cL_law 468 = .ok (.aload_n 0, 1) := eL_law_466.2.2.1
theorem dL_law_469 : decode cL_law 469 = .ok (.iload_n 3, 1) := eL_law_466.2.2.2.1
theorem dL_law_470 : decode cL_law 470 = .ok (.iconst 4, 1) := eL_law_466.2.2.2.2.1
theorem dL_law_471 : decode cL_law 471 = .ok (.iadd, 1) := eL_law_466.2.2.2.2.2.1
theorem dL_law_472 : decode cL_law 472 = .ok (.iaload, 1) := eL_law_466.2.2.2.2.2.2.1
theorem dL_law_473 : decode cL_law 473 = .ok (.aload_n 0, 1) := eL_law_466.2.2.2.2.2.2.2.1
theorem eL_law_474 : decode cL_law 474 = .ok (.iload_n 3, 1) ∧ decode cL_law 475 = .ok (.iconst 5, 1) ∧ decode cL_law 476 = .ok (.iadd, 1) ∧ decode cL_law 477 = .ok (.iaload, 1) ∧ decode cL_law 478 = .ok (.invokevirtual 44, 3) ∧ decode cL_law 481 = .ok (.pop, 1) ∧ decode cL_law 482 = .ok (.aload_n 2, 1) ∧ decode cL_law 483 = .ok (.aload_n 0, 1) ∧ True := dkl_ok (c := cL_law) [(.iload_n 3, 1), (.iconst 5, 1), (.iadd, 1), (.iaload, 1), (.invokevirtual 44, 3), (.pop, 1), (.aload_n 2, 1), (.aload_n 0, 1)] 474 (by decide +kernel)
theorem dL_law_474 : decode cL_law 474 = .ok (.iload_n 3, 1) := eL_law_474.1
theorem dL_law_475 : decode cL_law 475 = .ok (.iconst 5, 1) := eL_law_474.2.1
theorem dL_law_476 : decode cL_law 476 = .ok (.iadd, 1) := eL_law_474.2.2.1
theorem dL_law_477 : decode cL_law 477 = .ok (.iaload, 1) := eL_law_474.2.2.2.1
theorem dL_law_478 : decode cL_law 478 = .ok (.invokevirtual 44, 3) := eL_law_474.2.2.2.2.1
theorem dL_law_481 : decode cL_law 481 = .ok (.pop, 1) := eL_law_474.2.2.2.2.2.1
theorem dL_law_482 : decode cL_law 482 = .ok (.aload_n 2, 1) := eL_law_474.2.2.2.2.2.2.1
theorem dL_law_483 : decode cL_law 483 = .ok (.aload_n 0, 1) := eL_law_474.2.2.2.2.2.2.2.1
theorem eL_law_484 : decode cL_law 484 = .ok (.iload_n 3, 1) ∧ decode cL_law 485 = .ok (.iconst 1, 1) ∧ decode cL_law 486 = .ok (.iadd, 1) ∧ decode cL_law 487 = .ok (.iaload, 1) ∧ decode cL_law 488 = .ok (.aload_n 0, 1) ∧ decode cL_law 489 = .ok (.iload_n 3, 1) ∧ decode cL_law 490 = .ok (.iconst 2, 1) ∧ decode cL_law 491 = .ok (.iadd, 1) ∧ True := dkl_ok (c := cL_law) [(.iload_n 3, 1), (.iconst 1, 1), (.iadd, 1), (.iaload, 1), (.aload_n 0, 1), (.iload_n 3, 1), (.iconst 2, 1), (.iadd, 1)] 484 (by decide +kernel)
theorem dL_law_484 : decode cL_law 484 = .ok (.iload_n 3, 1) := eL_law_484.1
theorem dL_law_485 : decode cL_law 485 = .ok (.iconst 1, 1) := eL_law_484.2.1
theorem dL_law_486 : decode cL_law 486 = .ok (.iadd, 1) := eL_law_484.2.2.1
theorem dL_law_487 : decode cL_law 487 = .ok (.iaload, 1) := eL_law_484.2.2.2.1
theorem dL_law_488 : decode cL_law 488 = .ok (.aload_n 0, 1) := eL_law_484.2.2.2.2.1
theorem dL_law_489 : decode cL_law 489 = .ok (.iload_n 3, 1) := eL_law_484.2.2.2.2.2.1
theorem dL_law_490 : decode cL_law 490 = .ok (.iconst 2, 1) := eL_law_484.2.2.2.2.2.2.1
theorem dL_law_491 : decode cL_law 491 = .ok (.iadd, 1) := eL_law_484.2.2.2.2.2.2.2.1
theorem eL_law_492 : decode cL_law 492 = .ok (.iaload, 1) ∧ decode cL_law 493 = .ok (.aload_n 0, 1) ∧ decode cL_law 494 = .ok (.iload_n 3, 1) ∧ decode cL_law 495 = .ok (.iconst 3, 1) ∧ decode cL_law 496 = .ok (.iadd, 1) ∧ decode cL_law 497 = .ok (.iaload, 1) ∧ decode cL_law 498 = .ok (.aload_n 0, 1) ∧ decode cL_law 499 = .ok (.iload_n 3, 1) ∧ True := dkl_ok (c := cL_law) [(.iaload, 1), (.aload_n 0, 1), (.iload_n 3, 1), (.iconst 3, 1), (.iadd, 1), (.iaload, 1), (.aload_n 0, 1), (.iload_n 3, 1)] 492 (by decide +kernel)
theorem dL_law_492 : decode cL_law 492 = .ok (.iaload, 1) := eL_law_492.1
theorem dL_law_493 : decode cL_law 493 = .ok (.aload_n 0, 1) := eL_law_492.2.1
theorem dL_law_494 : decode cL_law 494 = .ok (.iload_n 3, 1) := eL_law_492.2.2.1
theorem dL_law_495 : decode cL_law 495 = .ok (.iconst 3, 1) := eL_law_492.2.2.2.1
theorem dL_law_496 : decode cL_law 496 = .ok (.iadd, 1) := eL_law_492.2.2.2.2.1
theorem dL_law_497 : decode cL_law 497 = .ok (.iaload, 1) := eL_law_492.2.2.2.2.2.1
theorem dL_law_498 : decode cL_law 498 = .ok (.aload_n 0, 1) := eL_law_492.2.2.2.2.2.2.1
theorem dL_law_499 : decode cL_law 499 = .ok (.iload_n 3, 1) := eL_law_492.2.2.2.2.2.2.2.1
theorem eL_law_500 : decode cL_law 500 = .ok (.iconst 4, 1) ∧ decode cL_law 501 = .ok (.iadd, 1) ∧ decode cL_law 502 = .ok (.iaload, 1) ∧ decode cL_law 503 = .ok (.aload_n 0, 1) ∧ decode cL_law 504 = .ok (.iload_n 3, 1) ∧ decode cL_law 505 = .ok (.iconst 5, 1) ∧ decode cL_law 506 = .ok (.iadd, 1) ∧ decode cL_law 507 = .ok (.iaload, 1) ∧ True := dkl_ok (c := cL_law) [(.iconst 4, 1), (.iadd, 1), (.iaload, 1), (.aload_n 0, 1), (.iload_n 3, 1), (.iconst 5, 1), (.iadd, 1), (.iaload, 1)] 500 (by decide +kernel)
theorem dL_law_500 : decode cL_law 500 = .ok (.iconst 4, 1) := eL_law_500.1
theorem dL_law_501 : decode cL_law 501 = .ok (.iadd, 1) := eL_law_500.2.1
theorem dL_law_502 : decode cL_law 502 = .ok (.iaload, 1) := eL_law_500.2.2.1
theorem dL_law_503 : decode cL_law 503 = .ok (.aload_n 0, 1) := eL_law_500.2.2.2.1
theorem dL_law_504 : decode cL_law 504 = .ok (.iload_n 3, 1) := eL_law_500.2.2.2.2.1
theorem dL_law_505 : decode cL_law 505 = .ok (.iconst 5, 1) := eL_law_500.2.2.2.2.2.1
theorem dL_law_506 : decode cL_law 506 = .ok (.iadd, 1) := eL_law_500.2.2.2.2.2.2.1
theorem dL_law_507 : decode cL_law 507 = .ok (.iaload, 1) := eL_law_500.2.2.2.2.2.2.2.1
theorem eL_law_508 : decode cL_law 508 = .ok (.invokevirtual 48, 3) ∧ decode cL_law 511 = .ok (.pop, 1) ∧ decode cL_law 512 = .ok (.goto 1284, 3) ∧ decode cL_law 515 = .ok (.aload_n 1, 1) ∧ decode cL_law 516 = .ok (.aload_n 0, 1) ∧ decode cL_law 517 = .ok (.iload_n 3, 1) ∧ decode cL_law 518 = .ok (.iconst 1, 1) ∧ decode cL_law 519 = .ok (.iadd, 1) ∧ True := dkl_ok (c := cL_law) [(.invokevirtual 48, 3), (.pop, 1), (.goto 1284, 3), (.aload_n 1, 1), (.aload_n 0, 1), (.iload_n 3, 1), (.iconst 1, 1), (.iadd, 1)] 508 (by decide +kernel)
theorem dL_law_508 : decode cL_law 508 = .ok (.invokevirtual 48, 3) := eL_law_508.1
theorem dL_law_511 : decode cL_law 511 = .ok (.pop, 1) := eL_law_508.2.1
theorem dL_law_512 : decode cL_law 512 = .ok (.goto 1284, 3) := eL_law_508.2.2.1
theorem dL_law_515 : decode cL_law 515 = .ok (.aload_n 1, 1) := eL_law_508.2.2.2.1
theorem dL_law_516 : decode cL_law 516 = .ok (.aload_n 0, 1) := eL_law_508.2.2.2.2.1
theorem dL_law_517 : decode cL_law 517 = .ok (.iload_n 3, 1) := eL_law_508.2.2.2.2.2.1
theorem dL_law_518 : decode cL_law 518 = .ok (.iconst 1, 1) := eL_law_508.2.2.2.2.2.2.1
theorem dL_law_519 : decode cL_law 519 = .ok (.iadd, 1) := eL_law_508.2.2.2.2.2.2.2.1
theorem eL_law_520 : decode cL_law 520 = .ok (.iaload, 1) ∧ decode cL_law 521 = .ok (.aload_n 0, 1) ∧ decode cL_law 522 = .ok (.iload_n 3, 1) ∧ decode cL_law 523 = .ok (.iconst 2, 1) ∧ decode cL_law 524 = .ok (.iadd, 1) ∧ decode cL_law 525 = .ok (.iaload, 1) ∧ decode cL_law 526 = .ok (.aload_n 0, 1) ∧ decode cL_law 527 = .ok (.iload_n 3, 1) ∧ True := dkl_ok (c := cL_law) [(.iaload, 1), (.aload_n 0, 1), (.iload_n 3, 1), (.iconst 2, 1), (.iadd, 1), (.iaload, 1), (.aload_n 0, 1), (.iload_n 3, 1)] 520 (by decide +kernel)
theorem dL_law_520 : decode cL_law 520 = .ok (.iaload, 1) := eL_law_520.1
theorem dL_law_521 : decode cL_law 521 = .ok (.aload_n 0, 1) := eL_law_520.2.1
theorem dL_law_522 : decode cL_law 522 = .ok (.iload_n 3, 1) := eL_law_520.2.2.1
theorem dL_law_523 : decode cL_law 523 = .ok (.iconst 2, 1) := eL_law_520.2.2.2.1
theorem dL_law_524 : decode cL_law 524 = .ok (.iadd, 1) := eL_law_520.2.2.2.2.1
theorem dL_law_525 : decode cL_law 525 = .ok (.iaload, 1) := eL_law_520.2.2.2.2.2.1
theorem dL_law_526 : decode cL_law 526 = .ok (.aload_n 0, 1) := eL_law_520.2.2.2.2.2.2.1
theorem dL_law_527 : decode cL_law 527 = .ok (.iload_n 3, 1) := eL_law_520.2.2.2.2.2.2.2.1
theorem eL_law_528 : decode cL_law 528 = .ok (.iconst 3, 1) ∧ decode cL_law 529 = .ok (.iadd, 1) ∧ decode cL_law 530 = .ok (.iaload, 1) ∧ decode cL_law 531 = .ok (.aload_n 0, 1) ∧ decode cL_law 532 = .ok (.iload_n 3, 1) ∧ decode cL_law 533 = .ok (.iconst 4, 1) ∧ decode cL_law 534 = .ok (.iadd, 1) ∧ decode cL_law 535 = .ok (.iaload, 1) ∧ True := dkl_ok (c := cL_law) [(.iconst 3, 1), (.iadd, 1), (.iaload, 1), (.aload_n 0, 1), (.iload_n 3, 1), (.iconst 4, 1), (.iadd, 1), (.iaload, 1)] 528 (by decide +kernel)
theorem dL_law_528 : decode cL_law 528 = .ok (.iconst 3, 1) := eL_law_528.1
theorem dL_law_529 : decode cL_law 529 = .ok (.iadd, 1) := eL_law_528.2.1
theorem dL_law_530 : decode cL_law 530 = .ok (.iaload, 1) := eL_law_528.2.2.1
theorem dL_law_531 : decode cL_law 531 = .ok (.aload_n 0, 1) := eL_law_528.2.2.2.1
theorem dL_law_532 : decode cL_law 532 = .ok (.iload_n 3, 1) := eL_law_528.2.2.2.2.1
theorem dL_law_533 : decode cL_law 533 = .ok (.iconst 4, 1) := eL_law_528.2.2.2.2.2.1
theorem dL_law_534 : decode cL_law 534 = .ok (.iadd, 1) := eL_law_528.2.2.2.2.2.2.1
theorem dL_law_535 : decode cL_law 535 = .ok (.iaload, 1) := eL_law_528.2.2.2.2.2.2.2.1
theorem eL_law_536 : decode cL_law 536 = .ok (.aload_n 0, 1) ∧ decode cL_law 537 = .ok (.iload_n 3, 1) ∧ decode cL_law 538 = .ok (.iconst 5, 1) ∧ decode cL_law 539 = .ok (.iadd, 1) ∧ decode cL_law 540 = .ok (.iaload, 1) ∧ decode cL_law 541 = .ok (.invokevirtual 49, 3) ∧ decode cL_law 544 = .ok (.pop, 1) ∧ decode cL_law 545 = .ok (.aload_n 2, 1) ∧ True := dkl_ok (c := cL_law) [(.aload_n 0, 1), (.iload_n 3, 1), (.iconst 5, 1), (.iadd, 1), (.iaload, 1), (.invokevirtual 49, 3), (.pop, 1), (.aload_n 2, 1)] 536 (by decide +kernel)
theorem dL_law_536 : decode cL_law 536 = .ok (.aload_n 0, 1) := eL_law_536.1
theorem dL_law_537 : decode cL_law 537 = .ok (.iload_n 3, 1) := eL_law_536.2.1
theorem dL_law_538 : decode cL_law 538 = .ok (.iconst 5, 1) := eL_law_536.2.2.1
theorem dL_law_539 : decode cL_law 539 = .ok (.iadd, 1) := eL_law_536.2.2.2.1
theorem dL_law_540 : decode cL_law 540 = .ok (.iaload, 1) := eL_law_536.2.2.2.2.1
theorem dL_law_541 : decode cL_law 541 = .ok (.invokevirtual 49, 3) := eL_law_536.2.2.2.2.2.1
theorem dL_law_544 : decode cL_law 544 = .ok (.pop, 1) := eL_law_536.2.2.2.2.2.2.1
theorem dL_law_545 : decode cL_law 545 = .ok (.aload_n 2, 1) := eL_law_536.2.2.2.2.2.2.2.1
theorem eL_law_546 : decode cL_law 546 = .ok (.aload_n 0, 1) ∧ decode cL_law 547 = .ok (.iload_n 3, 1) ∧ decode cL_law 548 = .ok (.iconst 1, 1) ∧ decode cL_law 549 = .ok (.iadd, 1) ∧ decode cL_law 550 = .ok (.iaload, 1) ∧ decode cL_law 551 = .ok (.aload_n 0, 1) ∧ decode cL_law 552 = .ok (.iload_n 3, 1) ∧ decode cL_law 553 = .ok (.iconst 2, 1) ∧ True := dkl_ok (c := cL_law) [(.aload_n 0, 1), (.iload_n 3, 1), (.iconst 1, 1), (.iadd, 1), (.iaload, 1), (.aload_n 0, 1), (.iload_n 3, 1), (.iconst 2, 1)] 546 (by decide +kernel)
theorem dL_law_546 : decode cL_law 546 = .ok (.aload_n 0, 1) := eL_law_546.1
theorem dL_law_547 : decode cL_law 547 = .ok (.iload_n 3, 1) := eL_law_546.2.1
theorem dL_law_548 : decode cL_law 548 = .ok (.iconst 1, 1) := eL_law_546.2.2.1
theorem dL_law_549 : decode cL_law 549 = .ok (.iadd, 1) := eL_law_546.2.2.2.1
theorem dL_law_550 : decode cL_law 550 = .ok (.iaload, 1) := eL_law_546.2.2.2.2.1
theorem dL_law_551 : decode cL_law 551 = .ok (.aload_n 0, 1) := eL_law_546.2.2.2.2.2.1
theorem dL_law_552 : decode cL_law 552 = .ok (.iload_n 3, 1) := eL_law_546.2.2.2.2.2.2.1
theorem dL_law_553 : decode cL_law 553 = .ok (.iconst 2, 1) := eL_law_546.2.2.2.2.2.2.2.1
theorem eL_law_554 : decode cL_law 554 = .ok (.iadd, 1) ∧ decode cL_law 555 = .ok (.iaload, 1) ∧ decode cL_law 556 = .ok (.aload_n 0, 1) ∧ decode cL_law 557 = .ok (.iload_n 3, 1) ∧ decode cL_law 558 = .ok (.iconst 3, 1) ∧ decode cL_law 559 = .ok (.iadd, 1) ∧ decode cL_law 560 = .ok (.iaload, 1) ∧ decode cL_law 561 = .ok (.aload_n 0, 1) ∧ True := dkl_ok (c := cL_law) [(.iadd, 1), (.iaload, 1), (.aload_n 0, 1), (.iload_n 3, 1), (.iconst 3, 1), (.iadd, 1), (.iaload, 1), (.aload_n 0, 1)] 554 (by decide +kernel)
theorem dL_law_554 : decode cL_law 554 = .ok (.iadd, 1) := eL_law_554.1
theorem dL_law_555 : decode cL_law 555 = .ok (.iaload, 1) := eL_law_554.2.1
theorem dL_law_556 : decode cL_law 556 = .ok (.aload_n 0, 1) := eL_law_554.2.2.1
theorem dL_law_557 : decode cL_law 557 = .ok (.iload_n 3, 1) := eL_law_554.2.2.2.1
theorem dL_law_558 : decode cL_law 558 = .ok (.iconst 3, 1) := eL_law_554.2.2.2.2.1
theorem dL_law_559 : decode cL_law 559 = .ok (.iadd, 1) := eL_law_554.2.2.2.2.2.1
theorem dL_law_560 : decode cL_law 560 = .ok (.iaload, 1) := eL_law_554.2.2.2.2.2.2.1
theorem dL_law_561 : decode cL_law 561 = .ok (.aload_n 0, 1) := eL_law_554.2.2.2.2.2.2.2.1
theorem eL_law_562 : decode cL_law 562 = .ok (.iload_n 3, 1) ∧ decode cL_law 563 = .ok (.iconst 4, 1) ∧ decode cL_law 564 = .ok (.iadd, 1) ∧ decode cL_law 565 = .ok (.iaload, 1) ∧ decode cL_law 566 = .ok (.aload_n 0, 1) ∧ decode cL_law 567 = .ok (.iload_n 3, 1) ∧ decode cL_law 568 = .ok (.iconst 5, 1) ∧ decode cL_law 569 = .ok (.iadd, 1) ∧ True := dkl_ok (c := cL_law) [(.iload_n 3, 1), (.iconst 4, 1), (.iadd, 1), (.iaload, 1), (.aload_n 0, 1), (.iload_n 3, 1), (.iconst 5, 1), (.iadd, 1)] 562 (by decide +kernel)
theorem dL_law_562 : decode cL_law 562 = .ok (.iload_n 3, 1) := eL_law_562.1
theorem dL_law_563 : decode cL_law 563 = .ok (.iconst 4, 1) := eL_law_562.2.1
theorem dL_law_564 : decode cL_law 564 = .ok (.iadd, 1) := eL_law_562.2.2.1
theorem dL_law_565 : decode cL_law 565 = .ok (.iaload, 1) := eL_law_562.2.2.2.1
theorem dL_law_566 : decode cL_law 566 = .ok (.aload_n 0, 1) := eL_law_562.2.2.2.2.1
theorem dL_law_567 : decode cL_law 567 = .ok (.iload_n 3, 1) := eL_law_562.2.2.2.2.2.1
theorem dL_law_568 : decode cL_law 568 = .ok (.iconst 5, 1) := eL_law_562.2.2.2.2.2.2.1
theorem dL_law_569 : decode cL_law 569 = .ok (.iadd, 1) := eL_law_562.2.2.2.2.2.2.2.1
theorem eL_law_570 : decode cL_law 570 = .ok (.iaload, 1) ∧ decode cL_law 571 = .ok (.invokevirtual 53, 3) ∧ decode cL_law 574 = .ok (.pop, 1) ∧ decode cL_law 575 = .ok (.goto 1221, 3) ∧ decode cL_law 578 = .ok (.aload_n 1, 1) ∧ decode cL_law 579 = .ok (.aload_n 0, 1) ∧ decode cL_law 580 = .ok (.iload_n 3, 1) ∧ decode cL_law 581 = .ok (.iconst 1, 1) ∧ True := dkl_ok (c := cL_law) [(.iaload, 1), (.invokevirtual 53, 3), (.pop, 1), (.goto 1221, 3), (.aload_n 1, 1), (.aload_n 0, 1), (.iload_n 3, 1), (.iconst 1, 1)] 570 (by decide +kernel)
theorem dL_law_570 : decode cL_law 570 = .ok (.iaload, 1) := eL_law_570.1
theorem dL_law_571 : decode cL_law 571 = .ok (.invokevirtual 53, 3) := eL_law_570.2.1
theorem dL_law_574 : decode cL_law 574 = .ok (.pop, 1) := eL_law_570.2.2.1
theorem dL_law_575 : decode cL_law 575 = .ok (.goto 1221, 3) := eL_law_570.2.2.2.1
theorem dL_law_578 : decode cL_law 578 = .ok (.aload_n 1, 1) := eL_law_570.2.2.2.2.1
theorem dL_law_579 : decode cL_law 579 = .ok (.aload_n 0, 1) := eL_law_570.2.2.2.2.2.1
theorem dL_law_580 : decode cL_law 580 = .ok (.iload_n 3, 1) := eL_law_570.2.2.2.2.2.2.1
theorem dL_law_581 : decode cL_law 581 = .ok (.iconst 1, 1) := eL_law_570.2.2.2.2.2.2.2.1
theorem eL_law_582 : decode cL_law 582 = .ok (.iadd, 1) ∧ decode cL_law 583 = .ok (.iaload, 1) ∧ decode cL_law 584 = .ok (.invokevirtual 54, 3) ∧ decode cL_law 587 = .ok (.pop, 1) ∧ decode cL_law 588 = .ok (.aload_n 2, 1) ∧ decode cL_law 589 = .ok (.aload_n 0, 1) ∧ decode cL_law 590 = .ok (.iload_n 3, 1) ∧ decode cL_law 591 = .ok (.iconst 1, 1) ∧ True := dkl_ok (c := cL_law) [(.iadd, 1), (.iaload, 1), (.invokevirtual 54, 3), (.pop, 1), (.aload_n 2, 1), (.aload_n 0, 1), (.iload_n 3, 1), (.iconst 1, 1)] 582 (by decide +kernel)
theorem dL_law_582 : decode cL_law 582 = .ok (.iadd, 1) := eL_law_582.1
theorem dL_law_583 : decode cL_law 583 = .ok (.iaload, 1) := eL_law_582.2.1
theorem dL_law_584 : decode cL_law 584 = .ok (.invokevirtual 54, 3) := eL_law_582.2.2.1
theorem dL_law_587 : decode cL_law 587 = .ok (.pop, 1) := eL_law_582.2.2.2.1
theorem dL_law_588 : decode cL_law 588 = .ok (.aload_n 2, 1) := eL_law_582.2.2.2.2.1
theorem dL_law_589 : decode cL_law 589 = .ok (.aload_n 0, 1) := eL_law_582.2.2.2.2.2.1
theorem dL_law_590 : decode cL_law 590 = .ok (.iload_n 3, 1) := eL_law_582.2.2.2.2.2.2.1
theorem dL_law_591 : decode cL_law 591 = .ok (.iconst 1, 1) := eL_law_582.2.2.2.2.2.2.2.1
theorem eL_law_592 : decode cL_law 592 = .ok (.iadd, 1) ∧ decode cL_law 593 = .ok (.iaload, 1) ∧ decode cL_law 594 = .ok (.invokevirtual 58, 3) ∧ decode cL_law 597 = .ok (.pop, 1) ∧ decode cL_law 598 = .ok (.goto 1198, 3) ∧ decode cL_law 601 = .ok (.aload_n 1, 1) ∧ decode cL_law 602 = .ok (.aload_n 0, 1) ∧ decode cL_law 603 = .ok (.iload_n 3, 1) ∧ True := dkl_ok (c := cL_law) [(.iadd, 1), (.iaload, 1), (.invokevirtual 58, 3), (.pop, 1), (.goto 1198, 3), (.aload_n 1, 1), (.aload_n 0, 1), (.iload_n 3, 1)] 592 (by decide +kernel)
theorem dL_law_592 : decode cL_law 592 = .ok (.iadd, 1) := eL_law_592.1
theorem dL_law_593 : decode cL_law 593 = .ok (.iaload, 1) := eL_law_592.2.1
theorem dL_law_594 : decode cL_law 594 = .ok (.invokevirtual 58, 3) := eL_law_592.2.2.1
theorem dL_law_597 : decode cL_law 597 = .ok (.pop, 1) := eL_law_592.2.2.2.1
theorem dL_law_598 : decode cL_law 598 = .ok (.goto 1198, 3) := eL_law_592.2.2.2.2.1
theorem dL_law_601 : decode cL_law 601 = .ok (.aload_n 1, 1) := eL_law_592.2.2.2.2.2.1
theorem dL_law_602 : decode cL_law 602 = .ok (.aload_n 0, 1) := eL_law_592.2.2.2.2.2.2.1
theorem dL_law_603 : decode cL_law 603 = .ok (.iload_n 3, 1) := eL_law_592.2.2.2.2.2.2.2.1
theorem eL_law_604 : decode cL_law 604 = .ok (.iconst 1, 1) ∧ decode cL_law 605 = .ok (.iadd, 1) ∧ decode cL_law 606 = .ok (.iaload, 1) ∧ decode cL_law 607 = .ok (.invokevirtual 59, 3) ∧ decode cL_law 610 = .ok (.pop, 1) ∧ decode cL_law 611 = .ok (.aload_n 2, 1) ∧ decode cL_law 612 = .ok (.aload_n 0, 1) ∧ decode cL_law 613 = .ok (.iload_n 3, 1) ∧ True := dkl_ok (c := cL_law) [(.iconst 1, 1), (.iadd, 1), (.iaload, 1), (.invokevirtual 59, 3), (.pop, 1), (.aload_n 2, 1), (.aload_n 0, 1), (.iload_n 3, 1)] 604 (by decide +kernel)
theorem dL_law_604 : decode cL_law 604 = .ok (.iconst 1, 1) := eL_law_604.1
theorem dL_law_605 : decode cL_law 605 = .ok (.iadd, 1) := eL_law_604.2.1
theorem dL_law_606 : decode cL_law 606 = .ok (.iaload, 1) := eL_law_604.2.2.1
theorem dL_law_607 : decode cL_law 607 = .ok (.invokevirtual 59, 3) := eL_law_604.2.2.2.1
theorem dL_law_610 : decode cL_law 610 = .ok (.pop, 1) := eL_law_604.2.2.2.2.1
theorem dL_law_611 : decode cL_law 611 = .ok (.aload_n 2, 1) := eL_law_604.2.2.2.2.2.1
theorem dL_law_612 : decode cL_law 612 = .ok (.aload_n 0, 1) := eL_law_604.2.2.2.2.2.2.1
theorem dL_law_613 : decode cL_law 613 = .ok (.iload_n 3, 1) := eL_law_604.2.2.2.2.2.2.2.1
theorem eL_law_614 : decode cL_law 614 = .ok (.iconst 1, 1) ∧ decode cL_law 615 = .ok (.iadd, 1) ∧ decode cL_law 616 = .ok (.iaload, 1) ∧ decode cL_law 617 = .ok (.invokevirtual 62, 3) ∧ decode cL_law 620 = .ok (.pop, 1) ∧ decode cL_law 621 = .ok (.goto 1175, 3) ∧ decode cL_law 624 = .ok (.aload_n 1, 1) ∧ decode cL_law 625 = .ok (.aload_n 0, 1) ∧ True := dkl_ok (c := cL_law) [(.iconst 1, 1), (.iadd, 1), (.iaload, 1), (.invokevirtual 62, 3), (.pop, 1), (.goto 1175, 3), (.aload_n 1, 1), (.aload_n 0, 1)] 614 (by decide +kernel)
theorem dL_law_614 : decode cL_law 614 = .ok (.iconst 1, 1) := eL_law_614.1
theorem dL_law_615 : decode cL_law 615 = .ok (.iadd, 1) := eL_law_614.2.1
theorem dL_law_616 : decode cL_law 616 = .ok (.iaload, 1) := eL_law_614.2.2.1
theorem dL_law_617 : decode cL_law 617 = .ok (.invokevirtual 62, 3) := eL_law_614.2.2.2.1
theorem dL_law_620 : decode cL_law 620 = .ok (.pop, 1) := eL_law_614.2.2.2.2.1
theorem dL_law_621 : decode cL_law 621 = .ok (.goto 1175, 3) := eL_law_614.2.2.2.2.2.1
theorem dL_law_624 : decode cL_law 624 = .ok (.aload_n 1, 1) := eL_law_614.2.2.2.2.2.2.1
theorem dL_law_625 : decode cL_law 625 = .ok (.aload_n 0, 1) := eL_law_614.2.2.2.2.2.2.2.1
theorem eL_law_626 : decode cL_law 626 = .ok (.iload_n 3, 1) ∧ decode cL_law 627 = .ok (.iconst 1, 1) ∧ decode cL_law 628 = .ok (.iadd, 1) ∧ decode cL_law 629 = .ok (.iaload, 1) ∧ decode cL_law 630 = .ok (.invokevirtual 63, 3) ∧ decode cL_law 633 = .ok (.pop, 1) ∧ decode cL_law 634 = .ok (.aload_n 2, 1) ∧ decode cL_law 635 = .ok (.aload_n 0, 1) ∧ True := dkl_ok (c := cL_law) [(.iload_n 3, 1), (.iconst 1, 1), (.iadd, 1), (.iaload, 1), (.invokevirtual 63, 3), (.pop, 1), (.aload_n 2, 1), (.aload_n 0, 1)] 626 (by decide +kernel)
theorem dL_law_626 : decode cL_law 626 = .ok (.iload_n 3, 1) := eL_law_626.1
theorem dL_law_627 : decode cL_law 627 = .ok (.iconst 1, 1) := eL_law_626.2.1
theorem dL_law_628 : decode cL_law 628 = .ok (.iadd, 1) := eL_law_626.2.2.1
theorem dL_law_629 : decode cL_law 629 = .ok (.iaload, 1) := eL_law_626.2.2.2.1
theorem dL_law_630 : decode cL_law 630 = .ok (.invokevirtual 63, 3) := eL_law_626.2.2.2.2.1
theorem dL_law_633 : decode cL_law 633 = .ok (.pop, 1) := eL_law_626.2.2.2.2.2.1
theorem dL_law_634 : decode cL_law 634 = .ok (.aload_n 2, 1) := eL_law_626.2.2.2.2.2.2.1
theorem dL_law_635 : decode cL_law 635 = .ok (.aload_n 0, 1) := eL_law_626.2.2.2.2.2.2.2.1
theorem eL_law_636 : decode cL_law 636 = .ok (.iload_n 3, 1) ∧ decode cL_law 637 = .ok (.iconst 1, 1) ∧ decode cL_law 638 = .ok (.iadd, 1) ∧ decode cL_law 639 = .ok (.iaload, 1) ∧ decode cL_law 640 = .ok (.invokevirtual 66, 3) ∧ decode cL_law 643 = .ok (.pop, 1) ∧ decode cL_law 644 = .ok (.goto 1152, 3) ∧ decode cL_law 647 = .ok (.aload_n 1, 1) ∧ True := dkl_ok (c := cL_law) [(.iload_n 3, 1), (.iconst 1, 1), (.iadd, 1), (.iaload, 1), (.invokevirtual 66, 3), (.pop, 1), (.goto 1152, 3), (.aload_n 1, 1)] 636 (by decide +kernel)
theorem dL_law_636 : decode cL_law 636 = .ok (.iload_n 3, 1) := eL_law_636.1
theorem dL_law_637 : decode cL_law 637 = .ok (.iconst 1, 1) := eL_law_636.2.1
theorem dL_law_638 : decode cL_law 638 = .ok (.iadd, 1) := eL_law_636.2.2.1
theorem dL_law_639 : decode cL_law 639 = .ok (.iaload, 1) := eL_law_636.2.2.2.1
theorem dL_law_640 : decode cL_law 640 = .ok (.invokevirtual 66, 3) := eL_law_636.2.2.2.2.1
theorem dL_law_643 : decode cL_law 643 = .ok (.pop, 1) := eL_law_636.2.2.2.2.2.1
theorem dL_law_644 : decode cL_law 644 = .ok (.goto 1152, 3) := eL_law_636.2.2.2.2.2.2.1
theorem dL_law_647 : decode cL_law 647 = .ok (.aload_n 1, 1) := eL_law_636.2.2.2.2.2.2.2.1
theorem eL_law_648 : decode cL_law 648 = .ok (.aload_n 0, 1) ∧ decode cL_law 649 = .ok (.iload_n 3, 1) ∧ decode cL_law 650 = .ok (.iconst 1, 1) ∧ decode cL_law 651 = .ok (.iadd, 1) ∧ decode cL_law 652 = .ok (.iaload, 1) ∧ decode cL_law 653 = .ok (.invokevirtual 67, 3) ∧ decode cL_law 656 = .ok (.pop, 1) ∧ decode cL_law 657 = .ok (.aload_n 2, 1) ∧ True := dkl_ok (c := cL_law) [(.aload_n 0, 1), (.iload_n 3, 1), (.iconst 1, 1), (.iadd, 1), (.iaload, 1), (.invokevirtual 67, 3), (.pop, 1), (.aload_n 2, 1)] 648 (by decide +kernel)
theorem dL_law_648 : decode cL_law 648 = .ok (.aload_n 0, 1) := eL_law_648.1
theorem dL_law_649 : decode cL_law 649 = .ok (.iload_n 3, 1) := eL_law_648.2.1
theorem dL_law_650 : decode cL_law 650 = .ok (.iconst 1, 1) := eL_law_648.2.2.1
theorem dL_law_651 : decode cL_law 651 = .ok (.iadd, 1) := eL_law_648.2.2.2.1
theorem dL_law_652 : decode cL_law 652 = .ok (.iaload, 1) := eL_law_648.2.2.2.2.1
theorem dL_law_653 : decode cL_law 653 = .ok (.invokevirtual 67, 3) := eL_law_648.2.2.2.2.2.1
theorem dL_law_656 : decode cL_law 656 = .ok (.pop, 1) := eL_law_648.2.2.2.2.2.2.1
theorem dL_law_657 : decode cL_law 657 = .ok (.aload_n 2, 1) := eL_law_648.2.2.2.2.2.2.2.1
theorem eL_law_658 : decode cL_law 658 = .ok (.aload_n 0, 1) ∧ decode cL_law 659 = .ok (.iload_n 3, 1) ∧ decode cL_law 660 = .ok (.iconst 1, 1) ∧ decode cL_law 661 = .ok (.iadd, 1) ∧ decode cL_law 662 = .ok (.iaload, 1) ∧ decode cL_law 663 = .ok (.invokevirtual 70, 3) ∧ decode cL_law 666 = .ok (.pop, 1) ∧ decode cL_law 667 = .ok (.goto 1129, 3) ∧ True := dkl_ok (c := cL_law) [(.aload_n 0, 1), (.iload_n 3, 1), (.iconst 1, 1), (.iadd, 1), (.iaload, 1), (.invokevirtual 70, 3), (.pop, 1), (.goto 1129, 3)] 658 (by decide +kernel)
theorem dL_law_658 : decode cL_law 658 = .ok (.aload_n 0, 1) := eL_law_658.1
theorem dL_law_659 : decode cL_law 659 = .ok (.iload_n 3, 1) := eL_law_658.2.1
theorem dL_law_660 : decode cL_law 660 = .ok (.iconst 1, 1) := eL_law_658.2.2.1
theorem dL_law_661 : decode cL_law 661 = .ok (.iadd, 1) := eL_law_658.2.2.2.1
theorem dL_law_662 : decode cL_law 662 = .ok (.iaload, 1) := eL_law_658.2.2.2.2.1
theorem dL_law_663 : decode cL_law 663 = .ok (.invokevirtual 70, 3) := eL_law_658.2.2.2.2.2.1
theorem dL_law_666 : decode cL_law 666 = .ok (.pop, 1) := eL_law_658.2.2.2.2.2.2.1
theorem dL_law_667 : decode cL_law 667 = .ok (.goto 1129, 3) := eL_law_658.2.2.2.2.2.2.2.1
theorem eL_law_670 : decode cL_law 670 = .ok (.aload_n 1, 1) ∧ decode cL_law 671 = .ok (.aload_n 0, 1) ∧ decode cL_law 672 = .ok (.iload_n 3, 1) ∧ decode cL_law 673 = .ok (.iconst 1, 1) ∧ decode cL_law 674 = .ok (.iadd, 1) ∧ decode cL_law 675 = .ok (.iaload, 1) ∧ decode cL_law 676 = .ok (.aload_n 0, 1) ∧ decode cL_law 677 = .ok (.iload_n 3, 1) ∧ True := dkl_ok (c := cL_law) [(.aload_n 1, 1), (.aload_n 0, 1), (.iload_n 3, 1), (.iconst 1, 1), (.iadd, 1), (.iaload, 1), (.aload_n 0, 1), (.iload_n 3, 1)] 670 (by decide +kernel)
theorem dL_law_670 : decode cL_law 670 = .ok (.aload_n 1, 1) := eL_law_670.1
theorem dL_law_671 : decode cL_law 671 = .ok (.aload_n 0, 1) := eL_law_670.2.1
theorem dL_law_672 : decode cL_law 672 = .ok (.iload_n 3, 1) := eL_law_670.2.2.1
theorem dL_law_673 : decode cL_law 673 = .ok (.iconst 1, 1) := eL_law_670.2.2.2.1
theorem dL_law_674 : decode cL_law 674 = .ok (.iadd, 1) := eL_law_670.2.2.2.2.1
theorem dL_law_675 : decode cL_law 675 = .ok (.iaload, 1) := eL_law_670.2.2.2.2.2.1
theorem dL_law_676 : decode cL_law 676 = .ok (.aload_n 0, 1) := eL_law_670.2.2.2.2.2.2.1
theorem dL_law_677 : decode cL_law 677 = .ok (.iload_n 3, 1) := eL_law_670.2.2.2.2.2.2.2.1
theorem eL_law_678 : decode cL_law 678 = .ok (.iconst 2, 1) ∧ decode cL_law 679 = .ok (.iadd, 1) ∧ decode cL_law 680 = .ok (.iaload, 1) ∧ decode cL_law 681 = .ok (.invokevirtual 71, 3) ∧ decode cL_law 684 = .ok (.pop, 1) ∧ decode cL_law 685 = .ok (.aload_n 2, 1) ∧ decode cL_law 686 = .ok (.aload_n 0, 1) ∧ decode cL_law 687 = .ok (.iload_n 3, 1) ∧ True := dkl_ok (c := cL_law) [(.iconst 2, 1), (.iadd, 1), (.iaload, 1), (.invokevirtual 71, 3), (.pop, 1), (.aload_n 2, 1), (.aload_n 0, 1), (.iload_n 3, 1)] 678 (by decide +kernel)
theorem dL_law_678 : decode cL_law 678 = .ok (.iconst 2, 1) := eL_law_678.1
theorem dL_law_679 : decode cL_law 679 = .ok (.iadd, 1) := eL_law_678.2.1
theorem dL_law_680 : decode cL_law 680 = .ok (.iaload, 1) := eL_law_678.2.2.1
theorem dL_law_681 : decode cL_law 681 = .ok (.invokevirtual 71, 3) := eL_law_678.2.2.2.1
theorem dL_law_684 : decode cL_law 684 = .ok (.pop, 1) := eL_law_678.2.2.2.2.1
theorem dL_law_685 : decode cL_law 685 = .ok (.aload_n 2, 1) := eL_law_678.2.2.2.2.2.1
theorem dL_law_686 : decode cL_law 686 = .ok (.aload_n 0, 1) := eL_law_678.2.2.2.2.2.2.1
theorem dL_law_687 : decode cL_law 687 = .ok (.iload_n 3, 1) := eL_law_678.2.2.2.2.2.2.2.1
theorem eL_law_688 : decode cL_law 688 = .ok (.iconst 1, 1) ∧ decode cL_law 689 = .ok (.iadd, 1) ∧ decode cL_law 690 = .ok (.iaload, 1) ∧ decode cL_law 691 = .ok (.aload_n 0, 1) ∧ decode cL_law 692 = .ok (.iload_n 3, 1) ∧ decode cL_law 693 = .ok (.iconst 2, 1) ∧ decode cL_law 694 = .ok (.iadd, 1) ∧ decode cL_law 695 = .ok (.iaload, 1) ∧ True := dkl_ok (c := cL_law) [(.iconst 1, 1), (.iadd, 1), (.iaload, 1), (.aload_n 0, 1), (.iload_n 3, 1), (.iconst 2, 1), (.iadd, 1), (.iaload, 1)] 688 (by decide +kernel)
theorem dL_law_688 : decode cL_law 688 = .ok (.iconst 1, 1) := eL_law_688.1
theorem dL_law_689 : decode cL_law 689 = .ok (.iadd, 1) := eL_law_688.2.1
theorem dL_law_690 : decode cL_law 690 = .ok (.iaload, 1) := eL_law_688.2.2.1
theorem dL_law_691 : decode cL_law 691 = .ok (.aload_n 0, 1) := eL_law_688.2.2.2.1
theorem dL_law_692 : decode cL_law 692 = .ok (.iload_n 3, 1) := eL_law_688.2.2.2.2.1
theorem dL_law_693 : decode cL_law 693 = .ok (.iconst 2, 1) := eL_law_688.2.2.2.2.2.1
theorem dL_law_694 : decode cL_law 694 = .ok (.iadd, 1) := eL_law_688.2.2.2.2.2.2.1
theorem dL_law_695 : decode cL_law 695 = .ok (.iaload, 1) := eL_law_688.2.2.2.2.2.2.2.1
theorem eL_law_696 : decode cL_law 696 = .ok (.invokevirtual 75, 3) ∧ decode cL_law 699 = .ok (.pop, 1) ∧ decode cL_law 700 = .ok (.goto 1096, 3) ∧ decode cL_law 703 = .ok (.aload_n 1, 1) ∧ decode cL_law 704 = .ok (.aload_n 0, 1) ∧ decode cL_law 705 = .ok (.iload_n 3, 1) ∧ decode cL_law 706 = .ok (.iconst 1, 1) ∧ decode cL_law 707 = .ok (.iadd, 1) ∧ True := dkl_ok (c := cL_law) [(.invokevirtual 75, 3), (.pop, 1), (.goto 1096, 3), (.aload_n 1, 1), (.aload_n 0, 1), (.iload_n 3, 1), (.iconst 1, 1), (.iadd, 1)] 696 (by decide +kernel)
theorem dL_law_696 : decode cL_law 696 = .ok (.invokevirtual 75, 3) := eL_law_696.1
theorem dL_law_699 : decode cL_law 699 = .ok (.pop, 1) := eL_law_696.2.1
theorem dL_law_700 : decode cL_law 700 = .ok (.goto 1096, 3) := eL_law_696.2.2.1
theorem dL_law_703 : decode cL_law 703 = .ok (.aload_n 1, 1) := eL_law_696.2.2.2.1
theorem dL_law_704 : decode cL_law 704 = .ok (.aload_n 0, 1) := eL_law_696.2.2.2.2.1
theorem dL_law_705 : decode cL_law 705 = .ok (.iload_n 3, 1) := eL_law_696.2.2.2.2.2.1
theorem dL_law_706 : decode cL_law 706 = .ok (.iconst 1, 1) := eL_law_696.2.2.2.2.2.2.1
theorem dL_law_707 : decode cL_law 707 = .ok (.iadd, 1) := eL_law_696.2.2.2.2.2.2.2.1
theorem eL_law_708 : decode cL_law 708 = .ok (.iaload, 1) ∧ decode cL_law 709 = .ok (.aload_n 0, 1) ∧ decode cL_law 710 = .ok (.iload_n 3, 1) ∧ decode cL_law 711 = .ok (.iconst 2, 1) ∧ decode cL_law 712 = .ok (.iadd, 1) ∧ decode cL_law 713 = .ok (.iaload, 1) ∧ decode cL_law 714 = .ok (.invokevirtual 76, 3) ∧ decode cL_law 717 = .ok (.pop, 1) ∧ True := dkl_ok (c := cL_law) [(.iaload, 1), (.aload_n 0, 1), (.iload_n 3, 1), (.iconst 2, 1), (.iadd, 1), (.iaload, 1), (.invokevirtual 76, 3), (.pop, 1)] 708 (by decide +kernel)
theorem dL_law_708 : decode cL_law 708 = .ok (.iaload, 1) := eL_law_708.1
theorem dL_law_709 : decode cL_law 709 = .ok (.aload_n 0, 1) := eL_law_708.2.1
theorem dL_law_710 : decode cL_law 710 = .ok (.iload_n 3, 1) := eL_law_708.2.2.1
theorem dL_law_711 : decode cL_law 711 = .ok (.iconst 2, 1) := eL_law_708.2.2.2.1
theorem dL_law_712 : decode cL_law 712 = .ok (.iadd, 1) := eL_law_708.2.2.2.2.1
theorem dL_law_713 : decode cL_law 713 = .ok (.iaload, 1) := eL_law_708.2.2.2.2.2.1
theorem dL_law_714 : decode cL_law 714 = .ok (.invokevirtual 76, 3) := eL_law_708.2.2.2.2.2.2.1
theorem dL_law_717 : decode cL_law 717 = .ok (.pop, 1) := eL_law_708.2.2.2.2.2.2.2.1
theorem eL_law_718 : decode cL_law 718 = .ok (.aload_n 2, 1) ∧ decode cL_law 719 = .ok (.aload_n 0, 1) ∧ decode cL_law 720 = .ok (.iload_n 3, 1) ∧ decode cL_law 721 = .ok (.iconst 1, 1) ∧ decode cL_law 722 = .ok (.iadd, 1) ∧ decode cL_law 723 = .ok (.iaload, 1) ∧ decode cL_law 724 = .ok (.aload_n 0, 1) ∧ decode cL_law 725 = .ok (.iload_n 3, 1) ∧ True := dkl_ok (c := cL_law) [(.aload_n 2, 1), (.aload_n 0, 1), (.iload_n 3, 1), (.iconst 1, 1), (.iadd, 1), (.iaload, 1), (.aload_n 0, 1), (.iload_n 3, 1)] 718 (by decide +kernel)
theorem dL_law_718 : decode cL_law 718 = .ok (.aload_n 2, 1) := eL_law_718.1
theorem dL_law_719 : decode cL_law 719 = .ok (.aload_n 0, 1) := eL_law_718.2.1
theorem dL_law_720 : decode cL_law 720 = .ok (.iload_n 3, 1) := eL_law_718.2.2.1
theorem dL_law_721 : decode cL_law 721 = .ok (.iconst 1, 1) := eL_law_718.2.2.2.1
theorem dL_law_722 : decode cL_law 722 = .ok (.iadd, 1) := eL_law_718.2.2.2.2.1
theorem dL_law_723 : decode cL_law 723 = .ok (.iaload, 1) := eL_law_718.2.2.2.2.2.1
theorem dL_law_724 : decode cL_law 724 = .ok (.aload_n 0, 1) := eL_law_718.2.2.2.2.2.2.1
theorem dL_law_725 : decode cL_law 725 = .ok (.iload_n 3, 1) := eL_law_718.2.2.2.2.2.2.2.1
theorem eL_law_726 : decode cL_law 726 = .ok (.iconst 2, 1) ∧ decode cL_law 727 = .ok (.iadd, 1) ∧ decode cL_law 728 = .ok (.iaload, 1) ∧ decode cL_law 729 = .ok (.invokevirtual 79, 3) ∧ decode cL_law 732 = .ok (.pop, 1) ∧ decode cL_law 733 = .ok (.goto 1063, 3) ∧ decode cL_law 736 = .ok (.aload_n 1, 1) ∧ decode cL_law 737 = .ok (.aload_n 0, 1) ∧ True := dkl_ok (c := cL_law) [(.iconst 2, 1), (.iadd, 1), (.iaload, 1), (.invokevirtual 79, 3), (.pop, 1), (.goto 1063, 3), (.aload_n 1, 1), (.aload_n 0, 1)] 726 (by decide +kernel)
theorem dL_law_726 : decode cL_law 726 = .ok (.iconst 2, 1) := eL_law_726.1
theorem dL_law_727 : decode cL_law 727 = .ok (.iadd, 1) := eL_law_726.2.1
theorem dL_law_728 : decode cL_law 728 = .ok (.iaload, 1) := eL_law_726.2.2.1
theorem dL_law_729 : decode cL_law 729 = .ok (.invokevirtual 79, 3) := eL_law_726.2.2.2.1
theorem dL_law_732 : decode cL_law 732 = .ok (.pop, 1) := eL_law_726.2.2.2.2.1
theorem dL_law_733 : decode cL_law 733 = .ok (.goto 1063, 3) := eL_law_726.2.2.2.2.2.1
theorem dL_law_736 : decode cL_law 736 = .ok (.aload_n 1, 1) := eL_law_726.2.2.2.2.2.2.1
theorem dL_law_737 : decode cL_law 737 = .ok (.aload_n 0, 1) := eL_law_726.2.2.2.2.2.2.2.1
theorem eL_law_738 : decode cL_law 738 = .ok (.iload_n 3, 1) ∧ decode cL_law 739 = .ok (.iconst 1, 1) ∧ decode cL_law 740 = .ok (.iadd, 1) ∧ decode cL_law 741 = .ok (.iaload, 1) ∧ decode cL_law 742 = .ok (.invokevirtual 80, 3) ∧ decode cL_law 745 = .ok (.pop, 1) ∧ decode cL_law 746 = .ok (.aload_n 2, 1) ∧ decode cL_law 747 = .ok (.aload_n 0, 1) ∧ True := dkl_ok (c := cL_law) [(.iload_n 3, 1), (.iconst 1, 1), (.iadd, 1), (.iaload, 1), (.invokevirtual 80, 3), (.pop, 1), (.aload_n 2, 1), (.aload_n 0, 1)] 738 (by decide +kernel)
theorem dL_law_738 : decode cL_law 738 = .ok (.iload_n 3, 1) := eL_law_738.1
theorem dL_law_739 : decode cL_law 739 = .ok (.iconst 1, 1) := eL_law_738.2.1
theorem dL_law_740 : decode cL_law 740 = .ok (.iadd, 1) := eL_law_738.2.2.1
theorem dL_law_741 : decode cL_law 741 = .ok (.iaload, 1) := eL_law_738.2.2.2.1
theorem dL_law_742 : decode cL_law 742 = .ok (.invokevirtual 80, 3) := eL_law_738.2.2.2.2.1
theorem dL_law_745 : decode cL_law 745 = .ok (.pop, 1) := eL_law_738.2.2.2.2.2.1
theorem dL_law_746 : decode cL_law 746 = .ok (.aload_n 2, 1) := eL_law_738.2.2.2.2.2.2.1
theorem dL_law_747 : decode cL_law 747 = .ok (.aload_n 0, 1) := eL_law_738.2.2.2.2.2.2.2.1
theorem eL_law_748 : decode cL_law 748 = .ok (.iload_n 3, 1) ∧ decode cL_law 749 = .ok (.iconst 1, 1) ∧ decode cL_law 750 = .ok (.iadd, 1) ∧ decode cL_law 751 = .ok (.iaload, 1) ∧ decode cL_law 752 = .ok (.invokevirtual 83, 3) ∧ decode cL_law 755 = .ok (.pop, 1) ∧ decode cL_law 756 = .ok (.goto 1040, 3) ∧ decode cL_law 759 = .ok (.aload_n 1, 1) ∧ True := dkl_ok (c := cL_law) [(.iload_n 3, 1), (.iconst 1, 1), (.iadd, 1), (.iaload, 1), (.invokevirtual 83, 3), (.pop, 1), (.goto 1040, 3), (.aload_n 1, 1)] 748 (by decide +kernel)
theorem dL_law_748 : decode cL_law 748 = .ok (.iload_n 3, 1) := eL_law_748.1
theorem dL_law_749 : decode cL_law 749 = .ok (.iconst 1, 1) := eL_law_748.2.1
theorem dL_law_750 : decode cL_law 750 = .ok (.iadd, 1) := eL_law_748.2.2.1
theorem dL_law_751 : decode cL_law 751 = .ok (.iaload, 1) := eL_law_748.2.2.2.1
theorem dL_law_752 : decode cL_law 752 = .ok (.invokevirtual 83, 3) := eL_law_748.2.2.2.2.1
theorem dL_law_755 : decode cL_law 755 = .ok (.pop, 1) := eL_law_748.2.2.2.2.2.1
theorem dL_law_756 : decode cL_law 756 = .ok (.goto 1040, 3) := eL_law_748.2.2.2.2.2.2.1
theorem dL_law_759 : decode cL_law 759 = .ok (.aload_n 1, 1) := eL_law_748.2.2.2.2.2.2.2.1
theorem eL_law_760 : decode cL_law 760 = .ok (.aload_n 0, 1) ∧ decode cL_law 761 = .ok (.iload_n 3, 1) ∧ decode cL_law 762 = .ok (.iconst 1, 1) ∧ decode cL_law 763 = .ok (.iadd, 1) ∧ decode cL_law 764 = .ok (.iaload, 1) ∧ decode cL_law 765 = .ok (.aload_n 0, 1) ∧ decode cL_law 766 = .ok (.iload_n 3, 1) ∧ decode cL_law 767 = .ok (.iconst 2, 1) ∧ True := dkl_ok (c := cL_law) [(.aload_n 0, 1), (.iload_n 3, 1), (.iconst 1, 1), (.iadd, 1), (.iaload, 1), (.aload_n 0, 1), (.iload_n 3, 1), (.iconst 2, 1)] 760 (by decide +kernel)
theorem dL_law_760 : decode cL_law 760 = .ok (.aload_n 0, 1) := eL_law_760.1
theorem dL_law_761 : decode cL_law 761 = .ok (.iload_n 3, 1) := eL_law_760.2.1
theorem dL_law_762 : decode cL_law 762 = .ok (.iconst 1, 1) := eL_law_760.2.2.1
theorem dL_law_763 : decode cL_law 763 = .ok (.iadd, 1) := eL_law_760.2.2.2.1
theorem dL_law_764 : decode cL_law 764 = .ok (.iaload, 1) := eL_law_760.2.2.2.2.1
theorem dL_law_765 : decode cL_law 765 = .ok (.aload_n 0, 1) := eL_law_760.2.2.2.2.2.1
theorem dL_law_766 : decode cL_law 766 = .ok (.iload_n 3, 1) := eL_law_760.2.2.2.2.2.2.1
theorem dL_law_767 : decode cL_law 767 = .ok (.iconst 2, 1) := eL_law_760.2.2.2.2.2.2.2.1
theorem eL_law_768 : decode cL_law 768 = .ok (.iadd, 1) ∧ decode cL_law 769 = .ok (.iaload, 1) ∧ decode cL_law 770 = .ok (.invokevirtual 84, 3) ∧ decode cL_law 773 = .ok (.pop, 1) ∧ decode cL_law 774 = .ok (.aload_n 2, 1) ∧ decode cL_law 775 = .ok (.aload_n 0, 1) ∧ decode cL_law 776 = .ok (.iload_n 3, 1) ∧ decode cL_law 777 = .ok (.iconst 1, 1) ∧ True := dkl_ok (c := cL_law) [(.iadd, 1), (.iaload, 1), (.invokevirtual 84, 3), (.pop, 1), (.aload_n 2, 1), (.aload_n 0, 1), (.iload_n 3, 1), (.iconst 1, 1)] 768 (by decide +kernel)
theorem dL_law_768 : decode cL_law 768 = .ok (.iadd, 1) := eL_law_768.1
theorem dL_law_769 : decode cL_law 769 = .ok (.iaload, 1) := eL_law_768.2.1
theorem dL_law_770 : decode cL_law 770 = .ok (.invokevirtual 84, 3) := eL_law_768.2.2.1
theorem dL_law_773 : decode cL_law 773 = .ok (.pop, 1) := eL_law_768.2.2.2.1
theorem dL_law_774 : decode cL_law 774 = .ok (.aload_n 2, 1) := eL_law_768.2.2.2.2.1
theorem dL_law_775 : decode cL_law 775 = .ok (.aload_n 0, 1) := eL_law_768.2.2.2.2.2.1
theorem dL_law_776 : decode cL_law 776 = .ok (.iload_n 3, 1) := eL_law_768.2.2.2.2.2.2.1
theorem dL_law_777 : decode cL_law 777 = .ok (.iconst 1, 1) := eL_law_768.2.2.2.2.2.2.2.1
theorem eL_law_778 : decode cL_law 778 = .ok (.iadd, 1) ∧ decode cL_law 779 = .ok (.iaload, 1) ∧ decode cL_law 780 = .ok (.aload_n 0, 1) ∧ decode cL_law 781 = .ok (.iload_n 3, 1) ∧ decode cL_law 782 = .ok (.iconst 2, 1) ∧ decode cL_law 783 = .ok (.iadd, 1) ∧ decode cL_law 784 = .ok (.iaload, 1) ∧ decode cL_law 785 = .ok (.invokevirtual 87, 3) ∧ True := dkl_ok (c := cL_law) [(.iadd, 1), (.iaload, 1), (.aload_n 0, 1), (.iload_n 3, 1), (.iconst 2, 1), (.iadd, 1), (.iaload, 1), (.invokevirtual 87, 3)] 778 (by decide +kernel)
theorem dL_law_778 : decode cL_law 778 = .ok (.iadd, 1) := eL_law_778.1
theorem dL_law_779 : decode cL_law 779 = .ok (.iaload, 1) := eL_law_778.2.1
theorem dL_law_780 : decode cL_law 780 = .ok (.aload_n 0, 1) := eL_law_778.2.2.1
theorem dL_law_781 : decode cL_law 781 = .ok (.iload_n 3, 1) := eL_law_778.2.2.2.1
theorem dL_law_782 : decode cL_law 782 = .ok (.iconst 2, 1) := eL_law_778.2.2.2.2.1
theorem dL_law_783 : decode cL_law 783 = .ok (.iadd, 1) := eL_law_778.2.2.2.2.2.1
theorem dL_law_784 : decode cL_law 784 = .ok (.iaload, 1) := eL_law_778.2.2.2.2.2.2.1
theorem dL_law_785 : decode cL_law 785 = .ok (.invokevirtual 87, 3) := eL_law_778.2.2.2.2.2.2.2.1
theorem eL_law_788 : decode cL_law 788 = .ok (.pop, 1) ∧ decode cL_law 789 = .ok (.goto 1007, 3) ∧ decode cL_law 792 = .ok (.aload_n 1, 1) ∧ decode cL_law 793 = .ok (.aload_n 0, 1) ∧ decode cL_law 794 = .ok (.iload_n 3, 1) ∧ decode cL_law 795 = .ok (.iconst 1, 1) ∧ decode cL_law 796 = .ok (.iadd, 1) ∧ decode cL_law 797 = .ok (.iaload, 1) ∧ True := dkl_ok (c := cL_law) [(.pop, 1), (.goto 1007, 3), (.aload_n 1, 1), (.aload_n 0, 1), (.iload_n 3, 1), (.iconst 1, 1), (.iadd, 1), (.iaload, 1)] 788 (by decide +kernel)
theorem dL_law_788 : decode cL_law 788 = .ok (.pop, 1) := eL_law_788.1
theorem dL_law_789 : decode cL_law 789 = .ok (.goto 1007, 3) := eL_law_788.2.1
theorem dL_law_792 : decode cL_law 792 = .ok (.aload_n 1, 1) := eL_law_788.2.2.1
theorem dL_law_793 : decode cL_law 793 = .ok (.aload_n 0, 1) := eL_law_788.2.2.2.1
theorem dL_law_794 : decode cL_law 794 = .ok (.iload_n 3, 1) := eL_law_788.2.2.2.2.1
theorem dL_law_795 : decode cL_law 795 = .ok (.iconst 1, 1) := eL_law_788.2.2.2.2.2.1
theorem dL_law_796 : decode cL_law 796 = .ok (.iadd, 1) := eL_law_788.2.2.2.2.2.2.1
theorem dL_law_797 : decode cL_law 797 = .ok (.iaload, 1) := eL_law_788.2.2.2.2.2.2.2.1
theorem eL_law_798 : decode cL_law 798 = .ok (.aload_n 0, 1) ∧ decode cL_law 799 = .ok (.iload_n 3, 1) ∧ decode cL_law 800 = .ok (.iconst 2, 1) ∧ decode cL_law 801 = .ok (.iadd, 1) ∧ decode cL_law 802 = .ok (.iaload, 1) ∧ decode cL_law 803 = .ok (.invokevirtual 88, 3) ∧ decode cL_law 806 = .ok (.pop, 1) ∧ decode cL_law 807 = .ok (.aload_n 2, 1) ∧ True := dkl_ok (c := cL_law) [(.aload_n 0, 1), (.iload_n 3, 1), (.iconst 2, 1), (.iadd, 1), (.iaload, 1), (.invokevirtual 88, 3), (.pop, 1), (.aload_n 2, 1)] 798 (by decide +kernel)
theorem dL_law_798 : decode cL_law 798 = .ok (.aload_n 0, 1) := eL_law_798.1
theorem dL_law_799 : decode cL_law 799 = .ok (.iload_n 3, 1) := eL_law_798.2.1
theorem dL_law_800 : decode cL_law 800 = .ok (.iconst 2, 1) := eL_law_798.2.2.1
theorem dL_law_801 : decode cL_law 801 = .ok (.iadd, 1) := eL_law_798.2.2.2.1
theorem dL_law_802 : decode cL_law 802 = .ok (.iaload, 1) := eL_law_798.2.2.2.2.1
theorem dL_law_803 : decode cL_law 803 = .ok (.invokevirtual 88, 3) := eL_law_798.2.2.2.2.2.1
theorem dL_law_806 : decode cL_law 806 = .ok (.pop, 1) := eL_law_798.2.2.2.2.2.2.1
theorem dL_law_807 : decode cL_law 807 = .ok (.aload_n 2, 1) := eL_law_798.2.2.2.2.2.2.2.1
theorem eL_law_808 : decode cL_law 808 = .ok (.aload_n 0, 1) ∧ decode cL_law 809 = .ok (.iload_n 3, 1) ∧ decode cL_law 810 = .ok (.iconst 1, 1) ∧ decode cL_law 811 = .ok (.iadd, 1) ∧ decode cL_law 812 = .ok (.iaload, 1) ∧ decode cL_law 813 = .ok (.aload_n 0, 1) ∧ decode cL_law 814 = .ok (.iload_n 3, 1) ∧ decode cL_law 815 = .ok (.iconst 2, 1) ∧ True := dkl_ok (c := cL_law) [(.aload_n 0, 1), (.iload_n 3, 1), (.iconst 1, 1), (.iadd, 1), (.iaload, 1), (.aload_n 0, 1), (.iload_n 3, 1), (.iconst 2, 1)] 808 (by decide +kernel)
theorem dL_law_808 : decode cL_law 808 = .ok (.aload_n 0, 1) := eL_law_808.1
theorem dL_law_809 : decode cL_law 809 = .ok (.iload_n 3, 1) := eL_law_808.2.1
theorem dL_law_810 : decode cL_law 810 = .ok (.iconst 1, 1) := eL_law_808.2.2.1
theorem dL_law_811 : decode cL_law 811 = .ok (.iadd, 1) := eL_law_808.2.2.2.1
theorem dL_law_812 : decode cL_law 812 = .ok (.iaload, 1) := eL_law_808.2.2.2.2.1
theorem dL_law_813 : decode cL_law 813 = .ok (.aload_n 0, 1) := eL_law_808.2.2.2.2.2.1
theorem dL_law_814 : decode cL_law 814 = .ok (.iload_n 3, 1) := eL_law_808.2.2.2.2.2.2.1
theorem dL_law_815 : decode cL_law 815 = .ok (.iconst 2, 1) := eL_law_808.2.2.2.2.2.2.2.1
theorem eL_law_816 : decode cL_law 816 = .ok (.iadd, 1) ∧ decode cL_law 817 = .ok (.iaload, 1) ∧ decode cL_law 818 = .ok (.invokevirtual 91, 3) ∧ decode cL_law 821 = .ok (.pop, 1) ∧ decode cL_law 822 = .ok (.goto 974, 3) ∧ decode cL_law 825 = .ok (.aload_n 1, 1) ∧ decode cL_law 826 = .ok (.aload_n 0, 1) ∧ decode cL_law 827 = .ok (.iload_n 3, 1) ∧ True := dkl_ok (c := cL_law) [(.iadd, 1), (.iaload, 1), (.invokevirtual 91, 3), (.pop, 1), (.goto 974, 3), (.aload_n 1, 1), (.aload_n 0, 1), (.iload_n 3, 1)] 816 (by decide +kernel)
theorem dL_law_816 : decode cL_law 816 = .ok (.iadd, 1) := eL_law_816.1
theorem dL_law_817 : decode cL_law 817 = .ok (.iaload, 1) := eL_law_816.2.1
theorem dL_law_818 : decode cL_law 818 = .ok (.invokevirtual 91, 3) := eL_law_816.2.2.1
theorem dL_law_821 : decode cL_law 821 = .ok (.pop, 1) := eL_law_816.2.2.2.1
theorem dL_law_822 : decode cL_law 822 = .ok (.goto 974, 3) := eL_law_816.2.2.2.2.1
theorem dL_law_825 : decode cL_law 825 = .ok (.aload_n 1, 1) := eL_law_816.2.2.2.2.2.1
theorem dL_law_826 : decode cL_law 826 = .ok (.aload_n 0, 1) := eL_law_816.2.2.2.2.2.2.1
theorem dL_law_827 : decode cL_law 827 = .ok (.iload_n 3, 1) := eL_law_816.2.2.2.2.2.2.2.1
theorem eL_law_828 : decode cL_law 828 = .ok (.iconst 1, 1) ∧ decode cL_law 829 = .ok (.iadd, 1) ∧ decode cL_law 830 = .ok (.iaload, 1) ∧ decode cL_law 831 = .ok (.aload_n 0, 1) ∧ decode cL_law 832 = .ok (.iload_n 3, 1) ∧ decode cL_law 833 = .ok (.iconst 2, 1) ∧ decode cL_law 834 = .ok (.iadd, 1) ∧ decode cL_law 835 = .ok (.iaload, 1) ∧ True := dkl_ok (c := cL_law) [(.iconst 1, 1), (.iadd, 1), (.iaload, 1), (.aload_n 0, 1), (.iload_n 3, 1), (.iconst 2, 1), (.iadd, 1), (.iaload, 1)] 828 (by decide +kernel)
theorem dL_law_828 : decode cL_law 828 = .ok (.iconst 1, 1) := eL_law_828.1
theorem dL_law_829 : decode cL_law 829 = .ok (.iadd, 1) := eL_law_828.2.1
theorem dL_law_830 : decode cL_law 830 = .ok (.iaload, 1) := eL_law_828.2.2.1
theorem dL_law_831 : decode cL_law 831 = .ok (.aload_n 0, 1) := eL_law_828.2.2.2.1
theorem dL_law_832 : decode cL_law 832 = .ok (.iload_n 3, 1) := eL_law_828.2.2.2.2.1
theorem dL_law_833 : decode cL_law 833 = .ok (.iconst 2, 1) := eL_law_828.2.2.2.2.2.1
theorem dL_law_834 : decode cL_law 834 = .ok (.iadd, 1) := eL_law_828.2.2.2.2.2.2.1
theorem dL_law_835 : decode cL_law 835 = .ok (.iaload, 1) := eL_law_828.2.2.2.2.2.2.2.1
theorem eL_law_836 : decode cL_law 836 = .ok (.invokevirtual 92, 3) ∧ decode cL_law 839 = .ok (.pop, 1) ∧ decode cL_law 840 = .ok (.aload_n 2, 1) ∧ decode cL_law 841 = .ok (.aload_n 0, 1) ∧ decode cL_law 842 = .ok (.iload_n 3, 1) ∧ decode cL_law 843 = .ok (.iconst 1, 1) ∧ decode cL_law 844 = .ok (.iadd, 1) ∧ decode cL_law 845 = .ok (.iaload, 1) ∧ True := dkl_ok (c := cL_law) [(.invokevirtual 92, 3), (.pop, 1), (.aload_n 2, 1), (.aload_n 0, 1), (.iload_n 3, 1), (.iconst 1, 1), (.iadd, 1), (.iaload, 1)] 836 (by decide +kernel)
theorem dL_law_836 : decode cL_law 836 = .ok (.invokevirtual 92, 3) := eL_law_836.1
theorem dL_law_839 : decode cL_law 839 = .ok (.pop, 1) := eL_law_836.2.1
theorem dL_law_840 : decode cL_law 840 = .ok (.aload_n 2, 1) := eL_law_836.2.2.1
theorem dL_law_841 : decode cL_law 841 = .ok (.aload_n 0, 1) := eL_law_836.2.2.2.1
theorem dL_law_842 : decode cL_law 842 = .ok (.iload_n 3, 1) := eL_law_836.2.2.2.2.1
theorem dL_law_843 : decode cL_law 843 = .ok (.iconst 1, 1) := eL_law_836.2.2.2.2.2.1
theorem dL_law_844 : decode cL_law 844 = .ok (.iadd, 1) := eL_law_836.2.2.2.2.2.2.1
theorem dL_law_845 : decode cL_law 845 = .ok (.iaload, 1) := eL_law_836.2.2.2.2.2.2.2.1
theorem eL_law_846 : decode cL_law 846 = .ok (.aload_n 0, 1) ∧ decode cL_law 847 = .ok (.iload_n 3, 1) ∧ decode cL_law 848 = .ok (.iconst 2, 1) ∧ decode cL_law 849 = .ok (.iadd, 1) ∧ decode cL_law 850 = .ok (.iaload, 1) ∧ decode cL_law 851 = .ok (.invokevirtual 95, 3) ∧ decode cL_law 854 = .ok (.pop, 1) ∧ decode cL_law 855 = .ok (.goto 941, 3) ∧ True := dkl_ok (c := cL_law) [(.aload_n 0, 1), (.iload_n 3, 1), (.iconst 2, 1), (.iadd, 1), (.iaload, 1), (.invokevirtual 95, 3), (.pop, 1), (.goto 941, 3)] 846 (by decide +kernel)
theorem dL_law_846 : decode cL_law 846 = .ok (.aload_n 0, 1) := eL_law_846.1
theorem dL_law_847 : decode cL_law 847 = .ok (.iload_n 3, 1) := eL_law_846.2.1
theorem dL_law_848 : decode cL_law 848 = .ok (.iconst 2, 1) := eL_law_846.2.2.1
theorem dL_law_849 : decode cL_law 849 = .ok (.iadd, 1) := eL_law_846.2.2.2.1
theorem dL_law_850 : decode cL_law 850 = .ok (.iaload, 1) := eL_law_846.2.2.2.2.1
theorem dL_law_851 : decode cL_law 851 = .ok (.invokevirtual 95, 3) := eL_law_846.2.2.2.2.2.1
theorem dL_law_854 : decode cL_law 854 = .ok (.pop, 1) := eL_law_846.2.2.2.2.2.2.1
theorem dL_law_855 : decode cL_law 855 = .ok (.goto 941, 3) := eL_law_846.2.2.2.2.2.2.2.1
theorem eL_law_858 : decode cL_law 858 = .ok (.aload_n 1, 1) ∧ decode cL_law 859 = .ok (.aload_n 0, 1) ∧ decode cL_law 860 = .ok (.iload_n 3, 1) ∧ decode cL_law 861 = .ok (.iconst 1, 1) ∧ decode cL_law 862 = .ok (.iadd, 1) ∧ decode cL_law 863 = .ok (.iaload, 1) ∧ decode cL_law 864 = .ok (.aload_n 0, 1) ∧ decode cL_law 865 = .ok (.iload_n 3, 1) ∧ True := dkl_ok (c := cL_law) [(.aload_n 1, 1), (.aload_n 0, 1), (.iload_n 3, 1), (.iconst 1, 1), (.iadd, 1), (.iaload, 1), (.aload_n 0, 1), (.iload_n 3, 1)] 858 (by decide +kernel)
theorem dL_law_858 : decode cL_law 858 = .ok (.aload_n 1, 1) := eL_law_858.1
theorem dL_law_859 : decode cL_law 859 = .ok (.aload_n 0, 1) := eL_law_858.2.1
theorem dL_law_860 : decode cL_law 860 = .ok (.iload_n 3, 1) := eL_law_858.2.2.1
theorem dL_law_861 : decode cL_law 861 = .ok (.iconst 1, 1) := eL_law_858.2.2.2.1
theorem dL_law_862 : decode cL_law 862 = .ok (.iadd, 1) := eL_law_858.2.2.2.2.1
theorem dL_law_863 : decode cL_law 863 = .ok (.iaload, 1) := eL_law_858.2.2.2.2.2.1
theorem dL_law_864 : decode cL_law 864 = .ok (.aload_n 0, 1) := eL_law_858.2.2.2.2.2.2.1
theorem dL_law_865 : decode cL_law 865 = .ok (.iload_n 3, 1) := eL_law_858.2.2.2.2.2.2.2.1
theorem eL_law_866 : decode cL_law 866 = .ok (.iconst 2, 1) ∧ decode cL_law 867 = .ok (.iadd, 1) ∧ decode cL_law 868 = .ok (.iaload, 1) ∧ decode cL_law 869 = .ok (.aload_n 0, 1) ∧ decode cL_law 870 = .ok (.iload_n 3, 1) ∧ decode cL_law 871 = .ok (.iconst 3, 1) ∧ decode cL_law 872 = .ok (.iadd, 1) ∧ decode cL_law 873 = .ok (.iaload, 1) ∧ True := dkl_ok (c := cL_law) [(.iconst 2, 1), (.iadd, 1), (.iaload, 1), (.aload_n 0, 1), (.iload_n 3, 1), (.iconst 3, 1), (.iadd, 1), (.iaload, 1)] 866 (by decide +kernel)
theorem dL_law_866 : decode cL_law 866 = .ok (.iconst 2, 1) := eL_law_866.1
theorem dL_law_867 : decode cL_law 867 = .ok (.iadd, 1) := eL_law_866.2.1
theorem dL_law_868 : decode cL_law 868 = .ok (.iaload, 1) := eL_law_866.2.2.1
theorem dL_law_869 : decode cL_law 869 = .ok (.aload_n 0, 1) := eL_law_866.2.2.2.1
theorem dL_law_870 : decode cL_law 870 = .ok (.iload_n 3, 1) := eL_law_866.2.2.2.2.1
theorem dL_law_871 : decode cL_law 871 = .ok (.iconst 3, 1) := eL_law_866.2.2.2.2.2.1
theorem dL_law_872 : decode cL_law 872 = .ok (.iadd, 1) := eL_law_866.2.2.2.2.2.2.1
theorem dL_law_873 : decode cL_law 873 = .ok (.iaload, 1) := eL_law_866.2.2.2.2.2.2.2.1
theorem eL_law_874 : decode cL_law 874 = .ok (.aload_n 0, 1) ∧ decode cL_law 875 = .ok (.iload_n 3, 1) ∧ decode cL_law 876 = .ok (.iconst 4, 1) ∧ decode cL_law 877 = .ok (.iadd, 1) ∧ decode cL_law 878 = .ok (.iaload, 1) ∧ decode cL_law 879 = .ok (.invokevirtual 96, 3) ∧ decode cL_law 882 = .ok (.pop, 1) ∧ decode cL_law 883 = .ok (.aload_n 2, 1) ∧ True := dkl_ok (c := cL_law) [(.aload_n 0, 1), (.iload_n 3, 1), (.iconst 4, 1), (.iadd, 1), (.iaload, 1), (.invokevirtual 96, 3), (.pop, 1), (.aload_n 2, 1)] 874 (by decide +kernel)
theorem dL_law_874 : decode cL_law 874 = .ok (.aload_n 0, 1) := eL_law_874.1
theorem dL_law_875 : decode cL_law 875 = .ok (.iload_n 3, 1) := eL_law_874.2.1
theorem dL_law_876 : decode cL_law 876 = .ok (.iconst 4, 1) := eL_law_874.2.2.1
theorem dL_law_877 : decode cL_law 877 = .ok (.iadd, 1) := eL_law_874.2.2.2.1
theorem dL_law_878 : decode cL_law 878 = .ok (.iaload, 1) := eL_law_874.2.2.2.2.1
theorem dL_law_879 : decode cL_law 879 = .ok (.invokevirtual 96, 3) := eL_law_874.2.2.2.2.2.1
theorem dL_law_882 : decode cL_law 882 = .ok (.pop, 1) := eL_law_874.2.2.2.2.2.2.1
theorem dL_law_883 : decode cL_law 883 = .ok (.aload_n 2, 1) := eL_law_874.2.2.2.2.2.2.2.1
theorem eL_law_884 : decode cL_law 884 = .ok (.aload_n 0, 1) ∧ decode cL_law 885 = .ok (.iload_n 3, 1) ∧ decode cL_law 886 = .ok (.iconst 1, 1) ∧ decode cL_law 887 = .ok (.iadd, 1) ∧ decode cL_law 888 = .ok (.iaload, 1) ∧ decode cL_law 889 = .ok (.aload_n 0, 1) ∧ decode cL_law 890 = .ok (.iload_n 3, 1) ∧ decode cL_law 891 = .ok (.iconst 2, 1) ∧ True := dkl_ok (c := cL_law) [(.aload_n 0, 1), (.iload_n 3, 1), (.iconst 1, 1), (.iadd, 1), (.iaload, 1), (.aload_n 0, 1), (.iload_n 3, 1), (.iconst 2, 1)] 884 (by decide +kernel)
theorem dL_law_884 : decode cL_law 884 = .ok (.aload_n 0, 1) := eL_law_884.1
theorem dL_law_885 : decode cL_law 885 = .ok (.iload_n 3, 1) := eL_law_884.2.1
theorem dL_law_886 : decode cL_law 886 = .ok (.iconst 1, 1) := eL_law_884.2.2.1
theorem dL_law_887 : decode cL_law 887 = .ok (.iadd, 1) := eL_law_884.2.2.2.1
theorem dL_law_888 : decode cL_law 888 = .ok (.iaload, 1) := eL_law_884.2.2.2.2.1
theorem dL_law_889 : decode cL_law 889 = .ok (.aload_n 0, 1) := eL_law_884.2.2.2.2.2.1
theorem dL_law_890 : decode cL_law 890 = .ok (.iload_n 3, 1) := eL_law_884.2.2.2.2.2.2.1
theorem dL_law_891 : decode cL_law 891 = .ok (.iconst 2, 1) := eL_law_884.2.2.2.2.2.2.2.1
theorem eL_law_892 : decode cL_law 892 = .ok (.iadd, 1) ∧ decode cL_law 893 = .ok (.iaload, 1) ∧ decode cL_law 894 = .ok (.aload_n 0, 1) ∧ decode cL_law 895 = .ok (.iload_n 3, 1) ∧ decode cL_law 896 = .ok (.iconst 3, 1) ∧ decode cL_law 897 = .ok (.iadd, 1) ∧ decode cL_law 898 = .ok (.iaload, 1) ∧ decode cL_law 899 = .ok (.aload_n 0, 1) ∧ True := dkl_ok (c := cL_law) [(.iadd, 1), (.iaload, 1), (.aload_n 0, 1), (.iload_n 3, 1), (.iconst 3, 1), (.iadd, 1), (.iaload, 1), (.aload_n 0, 1)] 892 (by decide +kernel)
theorem dL_law_892 : decode cL_law 892 = .ok (.iadd, 1) := eL_law_892.1
theorem dL_law_893 : decode cL_law 893 = .ok (.iaload, 1) := eL_law_892.2.1
theorem dL_law_894 : decode cL_law 894 = .ok (.aload_n 0, 1) := eL_law_892.2.2.1
theorem dL_law_895 : decode cL_law 895 = .ok (.iload_n 3, 1) := eL_law_892.2.2.2.1
theorem dL_law_896 : decode cL_law 896 = .ok (.iconst 3, 1) := eL_law_892.2.2.2.2.1
theorem dL_law_897 : decode cL_law 897 = .ok (.iadd, 1) := eL_law_892.2.2.2.2.2.1
theorem dL_law_898 : decode cL_law 898 = .ok (.iaload, 1) := eL_law_892.2.2.2.2.2.2.1
theorem dL_law_899 : decode cL_law 899 = .ok (.aload_n 0, 1) := eL_law_892.2.2.2.2.2.2.2.1
theorem eL_law_900 : decode cL_law 900 = .ok (.iload_n 3, 1) ∧ decode cL_law 901 = .ok (.iconst 4, 1) ∧ decode cL_law 902 = .ok (.iadd, 1) ∧ decode cL_law 903 = .ok (.iaload, 1) ∧ decode cL_law 904 = .ok (.invokevirtual 100, 3) ∧ decode cL_law 907 = .ok (.pop, 1) ∧ decode cL_law 908 = .ok (.goto 888, 3) ∧ decode cL_law 911 = .ok (.aload_n 1, 1) ∧ True := dkl_ok (c := cL_law) [(.iload_n 3, 1), (.iconst 4, 1), (.iadd, 1), (.iaload, 1), (.invokevirtual 100, 3), (.pop, 1), (.goto 888, 3), (.aload_n 1, 1)] 900 (by decide +kernel)
theorem dL_law_900 : decode cL_law 900 = .ok (.iload_n 3, 1) := eL_law_900.1
theorem dL_law_901 : decode cL_law 901 = .ok (.iconst 4, 1) := eL_law_900.2.1
theorem dL_law_902 : decode cL_law 902 = .ok (.iadd, 1) := eL_law_900.2.2.1
theorem dL_law_903 : decode cL_law 903 = .ok (.iaload, 1) := eL_law_900.2.2.2.1
theorem dL_law_904 : decode cL_law 904 = .ok (.invokevirtual 100, 3) := eL_law_900.2.2.2.2.1
theorem dL_law_907 : decode cL_law 907 = .ok (.pop, 1) := eL_law_900.2.2.2.2.2.1
theorem dL_law_908 : decode cL_law 908 = .ok (.goto 888, 3) := eL_law_900.2.2.2.2.2.2.1
theorem dL_law_911 : decode cL_law 911 = .ok (.aload_n 1, 1) := eL_law_900.2.2.2.2.2.2.2.1
theorem eL_law_912 : decode cL_law 912 = .ok (.invokevirtual 101, 3) ∧ decode cL_law 915 = .ok (.pop, 1) ∧ decode cL_law 916 = .ok (.aload_n 2, 1) ∧ decode cL_law 917 = .ok (.invokevirtual 104, 3) ∧ decode cL_law 920 = .ok (.pop, 1) ∧ decode cL_law 921 = .ok (.goto 875, 3) ∧ decode cL_law 924 = .ok (.aload_n 1, 1) ∧ decode cL_law 925 = .ok (.aload_n 0, 1) ∧ True := dkl_ok (c := cL_law) [(.invokevirtual 101, 3), (.pop, 1), (.aload_n 2, 1), (.invokevirtual 104, 3), (.pop, 1), (.goto 875, 3), (.aload_n 1, 1), (.aload_n 0, 1)] 912 (by decide +kernel)
theorem dL_law_912 : decode cL_law 912 = .ok (.invokevirtual 101, 3) := eL_law_912.1
theorem dL_law_915 : decode cL_law 915 = .ok (.pop, 1) := eL_law_912.2.1
theorem dL_law_916 : decode cL_law 916 = .ok (.aload_n 2, 1) := eL_law_912.2.2.1
theorem dL_law_917 : decode cL_law 917 = .ok (.invokevirtual 104, 3) := eL_law_912.2.2.2.1
theorem dL_law_920 : decode cL_law 920 = .ok (.pop, 1) := eL_law_912.2.2.2.2.1
theorem dL_law_921 : decode cL_law 921 = .ok (.goto 875, 3) := eL_law_912.2.2.2.2.2.1
theorem dL_law_924 : decode cL_law 924 = .ok (.aload_n 1, 1) := eL_law_912.2.2.2.2.2.2.1
theorem dL_law_925 : decode cL_law 925 = .ok (.aload_n 0, 1) := eL_law_912.2.2.2.2.2.2.2.1
theorem eL_law_926 : decode cL_law 926 = .ok (.iload_n 3, 1) ∧ decode cL_law 927 = .ok (.iconst 1, 1) ∧ decode cL_law 928 = .ok (.iadd, 1) ∧ decode cL_law 929 = .ok (.iaload, 1) ∧ decode cL_law 930 = .ok (.invokevirtual 105, 3) ∧ decode cL_law 933 = .ok (.pop, 1) ∧ decode cL_law 934 = .ok (.aload_n 2, 1) ∧ decode cL_law 935 = .ok (.aload_n 0, 1) ∧ True := dkl_ok (c := cL_law) [(.iload_n 3, 1), (.iconst 1, 1), (.iadd, 1), (.iaload, 1), (.invokevirtual 105, 3), (.pop, 1), (.aload_n 2, 1), (.aload_n 0, 1)] 926 (by decide +kernel)
theorem dL_law_926 : decode cL_law 926 = .ok (.iload_n 3, 1) := eL_law_926.1
theorem dL_law_927 : decode cL_law 927 = .ok (.iconst 1, 1) := eL_law_926.2.1
theorem dL_law_928 : decode cL_law 928 = .ok (.iadd, 1) := eL_law_926.2.2.1
theorem dL_law_929 : decode cL_law 929 = .ok (.iaload, 1) := eL_law_926.2.2.2.1
theorem dL_law_930 : decode cL_law 930 = .ok (.invokevirtual 105, 3) := eL_law_926.2.2.2.2.1
theorem dL_law_933 : decode cL_law 933 = .ok (.pop, 1) := eL_law_926.2.2.2.2.2.1
theorem dL_law_934 : decode cL_law 934 = .ok (.aload_n 2, 1) := eL_law_926.2.2.2.2.2.2.1
theorem dL_law_935 : decode cL_law 935 = .ok (.aload_n 0, 1) := eL_law_926.2.2.2.2.2.2.2.1
theorem eL_law_936 : decode cL_law 936 = .ok (.iload_n 3, 1) ∧ decode cL_law 937 = .ok (.iconst 1, 1) ∧ decode cL_law 938 = .ok (.iadd, 1) ∧ decode cL_law 939 = .ok (.iaload, 1) ∧ decode cL_law 940 = .ok (.invokevirtual 108, 3) ∧ decode cL_law 943 = .ok (.pop, 1) ∧ decode cL_law 944 = .ok (.goto 852, 3) ∧ decode cL_law 947 = .ok (.aload_n 1, 1) ∧ True := dkl_ok (c := cL_law) [(.iload_n 3, 1), (.iconst 1, 1), (.iadd, 1), (.iaload, 1), (.invokevirtual 108, 3), (.pop, 1), (.goto 852, 3), (.aload_n 1, 1)] 936 (by decide +kernel)
theorem dL_law_936 : decode cL_law 936 = .ok (.iload_n 3, 1) := eL_law_936.1
theorem dL_law_937 : decode cL_law 937 = .ok (.iconst 1, 1) := eL_law_936.2.1
theorem dL_law_938 : decode cL_law 938 = .ok (.iadd, 1) := eL_law_936.2.2.1
theorem dL_law_939 : decode cL_law 939 = .ok (.iaload, 1) := eL_law_936.2.2.2.1
theorem dL_law_940 : decode cL_law 940 = .ok (.invokevirtual 108, 3) := eL_law_936.2.2.2.2.1
theorem dL_law_943 : decode cL_law 943 = .ok (.pop, 1) := eL_law_936.2.2.2.2.2.1
theorem dL_law_944 : decode cL_law 944 = .ok (.goto 852, 3) := eL_law_936.2.2.2.2.2.2.1
theorem dL_law_947 : decode cL_law 947 = .ok (.aload_n 1, 1) := eL_law_936.2.2.2.2.2.2.2.1
theorem eL_law_948 : decode cL_law 948 = .ok (.aload_n 0, 1) ∧ decode cL_law 949 = .ok (.iload_n 3, 1) ∧ decode cL_law 950 = .ok (.iconst 1, 1) ∧ decode cL_law 951 = .ok (.iadd, 1) ∧ decode cL_law 952 = .ok (.iaload, 1) ∧ decode cL_law 953 = .ok (.aload_n 0, 1) ∧ decode cL_law 954 = .ok (.iload_n 3, 1) ∧ decode cL_law 955 = .ok (.iconst 2, 1) ∧ True := dkl_ok (c := cL_law) [(.aload_n 0, 1), (.iload_n 3, 1), (.iconst 1, 1), (.iadd, 1), (.iaload, 1), (.aload_n 0, 1), (.iload_n 3, 1), (.iconst 2, 1)] 948 (by decide +kernel)
theorem dL_law_948 : decode cL_law 948 = .ok (.aload_n 0, 1) := eL_law_948.1
theorem dL_law_949 : decode cL_law 949 = .ok (.iload_n 3, 1) := eL_law_948.2.1
theorem dL_law_950 : decode cL_law 950 = .ok (.iconst 1, 1) := eL_law_948.2.2.1
theorem dL_law_951 : decode cL_law 951 = .ok (.iadd, 1) := eL_law_948.2.2.2.1
theorem dL_law_952 : decode cL_law 952 = .ok (.iaload, 1) := eL_law_948.2.2.2.2.1
theorem dL_law_953 : decode cL_law 953 = .ok (.aload_n 0, 1) := eL_law_948.2.2.2.2.2.1
theorem dL_law_954 : decode cL_law 954 = .ok (.iload_n 3, 1) := eL_law_948.2.2.2.2.2.2.1
theorem dL_law_955 : decode cL_law 955 = .ok (.iconst 2, 1) := eL_law_948.2.2.2.2.2.2.2.1
theorem eL_law_956 : decode cL_law 956 = .ok (.iadd, 1) ∧ decode cL_law 957 = .ok (.iaload, 1) ∧ decode cL_law 958 = .ok (.aload_n 0, 1) ∧ decode cL_law 959 = .ok (.iload_n 3, 1) ∧ decode cL_law 960 = .ok (.iconst 3, 1) ∧ decode cL_law 961 = .ok (.iadd, 1) ∧ decode cL_law 962 = .ok (.iaload, 1) ∧ decode cL_law 963 = .ok (.invokevirtual 109, 3) ∧ True := dkl_ok (c := cL_law) [(.iadd, 1), (.iaload, 1), (.aload_n 0, 1), (.iload_n 3, 1), (.iconst 3, 1), (.iadd, 1), (.iaload, 1), (.invokevirtual 109, 3)] 956 (by decide +kernel)
theorem dL_law_956 : decode cL_law 956 = .ok (.iadd, 1) := eL_law_956.1
theorem dL_law_957 : decode cL_law 957 = .ok (.iaload, 1) := eL_law_956.2.1
theorem dL_law_958 : decode cL_law 958 = .ok (.aload_n 0, 1) := eL_law_956.2.2.1
theorem dL_law_959 : decode cL_law 959 = .ok (.iload_n 3, 1) := eL_law_956.2.2.2.1
theorem dL_law_960 : decode cL_law 960 = .ok (.iconst 3, 1) := eL_law_956.2.2.2.2.1
theorem dL_law_961 : decode cL_law 961 = .ok (.iadd, 1) := eL_law_956.2.2.2.2.2.1
theorem dL_law_962 : decode cL_law 962 = .ok (.iaload, 1) := eL_law_956.2.2.2.2.2.2.1
theorem dL_law_963 : decode cL_law 963 = .ok (.invokevirtual 109, 3) := eL_law_956.2.2.2.2.2.2.2.1
theorem eL_law_966 : decode cL_law 966 = .ok (.pop, 1) ∧ decode cL_law 967 = .ok (.aload_n 2, 1) ∧ decode cL_law 968 = .ok (.aload_n 0, 1) ∧ decode cL_law 969 = .ok (.iload_n 3, 1) ∧ decode cL_law 970 = .ok (.iconst 1, 1) ∧ decode cL_law 971 = .ok (.iadd, 1) ∧ decode cL_law 972 = .ok (.iaload, 1) ∧ decode cL_law 973 = .ok (.aload_n 0, 1) ∧ True := dkl_ok (c := cL_law) [(.pop, 1), (.aload_n 2, 1), (.aload_n 0, 1), (.iload_n 3, 1), (.iconst 1, 1), (.iadd, 1), (.iaload, 1), (.aload_n 0, 1)] 966 (by decide +kernel)
theorem dL_law_966 : decode cL_law 966 = .ok (.pop, 1) := eL_law_966.1
theorem dL_law_967 : decode cL_law 967 = .ok (.aload_n 2, 1) := eL_law_966.2.1
theorem dL_law_968 : decode cL_law 968 = .ok (.aload_n 0, 1) := eL_law_966.2.2.1
theorem dL_law_969 : decode cL_law 969 = .ok (.iload_n 3, 1) := eL_law_966.2.2.2.1
theorem dL_law_970 : decode cL_law 970 = .ok (.iconst 1, 1) := eL_law_966.2.2.2.2.1
theorem dL_law_971 : decode cL_law 971 = .ok (.iadd, 1) := eL_law_966.2.2.2.2.2.1
theorem dL_law_972 : decode cL_law 972 = .ok (.iaload, 1) := eL_law_966.2.2.2.2.2.2.1
theorem dL_law_973 : decode cL_law 973 = .ok (.aload_n 0, 1) := eL_law_966.2.2.2.2.2.2.2.1
theorem eL_law_974 : decode cL_law 974 = .ok (.iload_n 3, 1) ∧ decode cL_law 975 = .ok (.iconst 2, 1) ∧ decode cL_law 976 = .ok (.iadd, 1) ∧ decode cL_law 977 = .ok (.iaload, 1) ∧ decode cL_law 978 = .ok (.aload_n 0, 1) ∧ decode cL_law 979 = .ok (.iload_n 3, 1) ∧ decode cL_law 980 = .ok (.iconst 3, 1) ∧ decode cL_law 981 = .ok (.iadd, 1) ∧ True := dkl_ok (c := cL_law) [(.iload_n 3, 1), (.iconst 2, 1), (.iadd, 1), (.iaload, 1), (.aload_n 0, 1), (.iload_n 3, 1), (.iconst 3, 1), (.iadd, 1)] 974 (by decide +kernel)
theorem dL_law_974 : decode cL_law 974 = .ok (.iload_n 3, 1) := eL_law_974.1
theorem dL_law_975 : decode cL_law 975 = .ok (.iconst 2, 1) := eL_law_974.2.1
theorem dL_law_976 : decode cL_law 976 = .ok (.iadd, 1) := eL_law_974.2.2.1
theorem dL_law_977 : decode cL_law 977 = .ok (.iaload, 1) := eL_law_974.2.2.2.1
theorem dL_law_978 : decode cL_law 978 = .ok (.aload_n 0, 1) := eL_law_974.2.2.2.2.1
theorem dL_law_979 : decode cL_law 979 = .ok (.iload_n 3, 1) := eL_law_974.2.2.2.2.2.1
theorem dL_law_980 : decode cL_law 980 = .ok (.iconst 3, 1) := eL_law_974.2.2.2.2.2.2.1
theorem dL_law_981 : decode cL_law 981 = .ok (.iadd, 1) := eL_law_974.2.2.2.2.2.2.2.1
theorem eL_law_982 : decode cL_law 982 = .ok (.iaload, 1) ∧ decode cL_law 983 = .ok (.invokevirtual 112, 3) ∧ decode cL_law 986 = .ok (.pop, 1) ∧ decode cL_law 987 = .ok (.goto 809, 3) ∧ decode cL_law 990 = .ok (.aload_n 1, 1) ∧ decode cL_law 991 = .ok (.aload_n 0, 1) ∧ decode cL_law 992 = .ok (.iload_n 3, 1) ∧ decode cL_law 993 = .ok (.iconst 1, 1) ∧ True := dkl_ok (c := cL_law) [(.iaload, 1), (.invokevirtual 112, 3), (.pop, 1), (.goto 809, 3), (.aload_n 1, 1), (.aload_n 0, 1), (.iload_n 3, 1), (.iconst 1, 1)] 982 (by decide +kernel)
theorem dL_law_982 : decode cL_law 982 = .ok (.iaload, 1) := eL_law_982.1
theorem dL_law_983 : decode cL_law 983 = .ok (.invokevirtual 112, 3) := eL_law_982.2.1
theorem dL_law_986 : decode cL_law 986 = .ok (.pop, 1) := eL_law_982.2.2.1
theorem dL_law_987 : decode cL_law 987 = .ok (.goto 809, 3) := eL_law_982.2.2.2.1
theorem dL_law_990 : decode cL_law 990 = .ok (.aload_n 1, 1) := eL_law_982.2.2.2.2.1
theorem dL_law_991 : decode cL_law 991 = .ok (.aload_n 0, 1) := eL_law_982.2.2.2.2.2.1
theorem dL_law_992 : decode cL_law 992 = .ok (.iload_n 3, 1) := eL_law_982.2.2.2.2.2.2.1
theorem dL_law_993 : decode cL_law 993 = .ok (.iconst 1, 1) := eL_law_982.2.2.2.2.2.2.2.1
theorem eL_law_994 : decode cL_law 994 = .ok (.iadd, 1) ∧ decode cL_law 995 = .ok (.iaload, 1) ∧ decode cL_law 996 = .ok (.aload_n 0, 1) ∧ decode cL_law 997 = .ok (.iload_n 3, 1) ∧ decode cL_law 998 = .ok (.iconst 2, 1) ∧ decode cL_law 999 = .ok (.iadd, 1) ∧ decode cL_law 1000 = .ok (.iaload, 1) ∧ decode cL_law 1001 = .ok (.invokevirtual 113, 3) ∧ True := dkl_ok (c := cL_law) [(.iadd, 1), (.iaload, 1), (.aload_n 0, 1), (.iload_n 3, 1), (.iconst 2, 1), (.iadd, 1), (.iaload, 1), (.invokevirtual 113, 3)] 994 (by decide +kernel)
theorem dL_law_994 : decode cL_law 994 = .ok (.iadd, 1) := eL_law_994.1
theorem dL_law_995 : decode cL_law 995 = .ok (.iaload, 1) := eL_law_994.2.1
theorem dL_law_996 : decode cL_law 996 = .ok (.aload_n 0, 1) := eL_law_994.2.2.1
theorem dL_law_997 : decode cL_law 997 = .ok (.iload_n 3, 1) := eL_law_994.2.2.2.1
theorem dL_law_998 : decode cL_law 998 = .ok (.iconst 2, 1) := eL_law_994.2.2.2.2.1
theorem dL_law_999 : decode cL_law 999 = .ok (.iadd, 1) := eL_law_994.2.2.2.2.2.1
theorem dL_law_1000 : decode cL_law 1000 = .ok (.iaload, 1) := eL_law_994.2.2.2.2.2.2.1
theorem dL_law_1001 : decode cL_law 1001 = .ok (.invokevirtual 113, 3) := eL_law_994.2.2.2.2.2.2.2.1
theorem eL_law_1004 : decode cL_law 1004 = .ok (.pop, 1) ∧ decode cL_law 1005 = .ok (.aload_n 2, 1) ∧ decode cL_law 1006 = .ok (.aload_n 0, 1) ∧ decode cL_law 1007 = .ok (.iload_n 3, 1) ∧ decode cL_law 1008 = .ok (.iconst 1, 1) ∧ decode cL_law 1009 = .ok (.iadd, 1) ∧ decode cL_law 1010 = .ok (.iaload, 1) ∧ decode cL_law 1011 = .ok (.aload_n 0, 1) ∧ True := dkl_ok (c := cL_law) [(.pop, 1), (.aload_n 2, 1), (.aload_n 0, 1), (.iload_n 3, 1), (.iconst 1, 1), (.iadd, 1), (.iaload, 1), (.aload_n 0, 1)] 1004 (by decide +kernel)
theorem dL_law_1004 : decode cL_law 1004 = .ok (.pop, 1) := eL_law_1004.1
theorem dL_law_1005 : decode cL_law 1005 = .ok (.aload_n 2, 1) := eL_law_1004.2.1
theorem dL_law_1006 : decode cL_law 1006 = .ok (.aload_n 0, 1) := eL_law_1004.2.2.1
theorem dL_law_1007 : decode cL_law 1007 = .ok (.iload_n 3, 1) := eL_law_1004.2.2.2.1
theorem dL_law_1008 : decode cL_law 1008 = .ok (.iconst 1, 1) := eL_law_1004.2.2.2.2.1
theorem dL_law_1009 : decode cL_law 1009 = .ok (.iadd, 1) := eL_law_1004.2.2.2.2.2.1
theorem dL_law_1010 : decode cL_law 1010 = .ok (.iaload, 1) := eL_law_1004.2.2.2.2.2.2.1
theorem dL_law_1011 : decode cL_law 1011 = .ok (.aload_n 0, 1) := eL_law_1004.2.2.2.2.2.2.2.1
theorem eL_law_1012 : decode cL_law 1012 = .ok (.iload_n 3, 1) ∧ decode cL_law 1013 = .ok (.iconst 2, 1) ∧ decode cL_law 1014 = .ok (.iadd, 1) ∧ decode cL_law 1015 = .ok (.iaload, 1) ∧ decode cL_law 1016 = .ok (.invokevirtual 116, 3) ∧ decode cL_law 1019 = .ok (.pop, 1) ∧ decode cL_law 1020 = .ok (.goto 776, 3) ∧ decode cL_law 1023 = .ok (.aload_n 1, 1) ∧ True := dkl_ok (c := cL_law) [(.iload_n 3, 1), (.iconst 2, 1), (.iadd, 1), (.iaload, 1), (.invokevirtual 116, 3), (.pop, 1), (.goto 776, 3), (.aload_n 1, 1)] 1012 (by decide +kernel)
theorem dL_law_1012 : decode cL_law 1012 = .ok (.iload_n 3, 1) := eL_law_1012.1
theorem dL_law_1013 : decode cL_law 1013 = .ok (.iconst 2, 1) := eL_law_1012.2.1
theorem dL_law_1014 : decode cL_law 1014 = .ok (.iadd, 1) := eL_law_1012.2.2.1
theorem dL_law_1015 : decode cL_law 1015 = .ok (.iaload, 1) := eL_law_1012.2.2.2.1
theorem dL_law_1016 : decode cL_law 1016 = .ok (.invokevirtual 116, 3) := eL_law_1012.2.2.2.2.1
theorem dL_law_1019 : decode cL_law 1019 = .ok (.pop, 1) := eL_law_1012.2.2.2.2.2.1
theorem dL_law_1020 : decode cL_law 1020 = .ok (.goto 776, 3) := eL_law_1012.2.2.2.2.2.2.1
theorem dL_law_1023 : decode cL_law 1023 = .ok (.aload_n 1, 1) := eL_law_1012.2.2.2.2.2.2.2.1
theorem eL_law_1024 : decode cL_law 1024 = .ok (.aload_n 0, 1) ∧ decode cL_law 1025 = .ok (.iload_n 3, 1) ∧ decode cL_law 1026 = .ok (.iconst 1, 1) ∧ decode cL_law 1027 = .ok (.iadd, 1) ∧ decode cL_law 1028 = .ok (.iaload, 1) ∧ decode cL_law 1029 = .ok (.aload_n 0, 1) ∧ decode cL_law 1030 = .ok (.iload_n 3, 1) ∧ decode cL_law 1031 = .ok (.iconst 2, 1) ∧ True := dkl_ok (c := cL_law) [(.aload_n 0, 1), (.iload_n 3, 1), (.iconst 1, 1), (.iadd, 1), (.iaload, 1), (.aload_n 0, 1), (.iload_n 3, 1), (.iconst 2, 1)] 1024 (by decide +kernel)
theorem dL_law_1024 : decode cL_law 1024 = .ok (.aload_n 0, 1) := eL_law_1024.1
theorem dL_law_1025 : decode cL_law 1025 = .ok (.iload_n 3, 1) := eL_law_1024.2.1
theorem dL_law_1026 : decode cL_law 1026 = .ok (.iconst 1, 1) := eL_law_1024.2.2.1
theorem dL_law_1027 : decode cL_law 1027 = .ok (.iadd, 1) := eL_law_1024.2.2.2.1
theorem dL_law_1028 : decode cL_law 1028 = .ok (.iaload, 1) := eL_law_1024.2.2.2.2.1
theorem dL_law_1029 : decode cL_law 1029 = .ok (.aload_n 0, 1) := eL_law_1024.2.2.2.2.2.1
theorem dL_law_1030 : decode cL_law 1030 = .ok (.iload_n 3, 1) := eL_law_1024.2.2.2.2.2.2.1
theorem dL_law_1031 : decode cL_law 1031 = .ok (.iconst 2, 1) := eL_law_1024.2.2.2.2.2.2.2.1
theorem eL_law_1032 : decode cL_law 1032 = .ok (.iadd, 1) ∧ decode cL_law 1033 = .ok (.iaload, 1) ∧ decode cL_law 1034 = .ok (.invokevirtual 117, 3) ∧ decode cL_law 1037 = .ok (.pop, 1) ∧ decode cL_law 1038 = .ok (.aload_n 2, 1) ∧ decode cL_law 1039 = .ok (.aload_n 0, 1) ∧ decode cL_law 1040 = .ok (.iload_n 3, 1) ∧ decode cL_law 1041 = .ok (.iconst 1, 1) ∧ True := dkl_ok (c := cL_law) [(.iadd, 1), (.iaload, 1), (.invokevirtual 117, 3), (.pop, 1), (.aload_n 2, 1), (.aload_n 0, 1), (.iload_n 3, 1), (.iconst 1, 1)] 1032 (by decide +kernel)
theorem dL_law_1032 : decode cL_law 1032 = .ok (.iadd, 1) := eL_law_1032.1
theorem dL_law_1033 : decode cL_law 1033 = .ok (.iaload, 1) := eL_law_1032.2.1
theorem dL_law_1034 : decode cL_law 1034 = .ok (.invokevirtual 117, 3) := eL_law_1032.2.2.1
theorem dL_law_1037 : decode cL_law 1037 = .ok (.pop, 1) := eL_law_1032.2.2.2.1
theorem dL_law_1038 : decode cL_law 1038 = .ok (.aload_n 2, 1) := eL_law_1032.2.2.2.2.1
theorem dL_law_1039 : decode cL_law 1039 = .ok (.aload_n 0, 1) := eL_law_1032.2.2.2.2.2.1
theorem dL_law_1040 : decode cL_law 1040 = .ok (.iload_n 3, 1) := eL_law_1032.2.2.2.2.2.2.1
theorem dL_law_1041 : decode cL_law 1041 = .ok (.iconst 1, 1) := eL_law_1032.2.2.2.2.2.2.2.1
theorem eL_law_1042 : decode cL_law 1042 = .ok (.iadd, 1) ∧ decode cL_law 1043 = .ok (.iaload, 1) ∧ decode cL_law 1044 = .ok (.aload_n 0, 1) ∧ decode cL_law 1045 = .ok (.iload_n 3, 1) ∧ decode cL_law 1046 = .ok (.iconst 2, 1) ∧ decode cL_law 1047 = .ok (.iadd, 1) ∧ decode cL_law 1048 = .ok (.iaload, 1) ∧ decode cL_law 1049 = .ok (.invokevirtual 120, 3) ∧ True := dkl_ok (c := cL_law) [(.iadd, 1), (.iaload, 1), (.aload_n 0, 1), (.iload_n 3, 1), (.iconst 2, 1), (.iadd, 1), (.iaload, 1), (.invokevirtual 120, 3)] 1042 (by decide +kernel)
theorem dL_law_1042 : decode cL_law 1042 = .ok (.iadd, 1) := eL_law_1042.1
theorem dL_law_1043 : decode cL_law 1043 = .ok (.iaload, 1) := eL_law_1042.2.1
theorem dL_law_1044 : decode cL_law 1044 = .ok (.aload_n 0, 1) := eL_law_1042.2.2.1
theorem dL_law_1045 : decode cL_law 1045 = .ok (.iload_n 3, 1) := eL_law_1042.2.2.2.1
theorem dL_law_1046 : decode cL_law 1046 = .ok (.iconst 2, 1) := eL_law_1042.2.2.2.2.1
theorem dL_law_1047 : decode cL_law 1047 = .ok (.iadd, 1) := eL_law_1042.2.2.2.2.2.1
theorem dL_law_1048 : decode cL_law 1048 = .ok (.iaload, 1) := eL_law_1042.2.2.2.2.2.2.1
theorem dL_law_1049 : decode cL_law 1049 = .ok (.invokevirtual 120, 3) := eL_law_1042.2.2.2.2.2.2.2.1
theorem eL_law_1052 : decode cL_law 1052 = .ok (.pop, 1) ∧ decode cL_law 1053 = .ok (.goto 743, 3) ∧ decode cL_law 1056 = .ok (.aload_n 1, 1) ∧ decode cL_law 1057 = .ok (.aload_n 0, 1) ∧ decode cL_law 1058 = .ok (.iload_n 3, 1) ∧ decode cL_law 1059 = .ok (.iconst 1, 1) ∧ decode cL_law 1060 = .ok (.iadd, 1) ∧ decode cL_law 1061 = .ok (.iaload, 1) ∧ True := dkl_ok (c := cL_law) [(.pop, 1), (.goto 743, 3), (.aload_n 1, 1), (.aload_n 0, 1), (.iload_n 3, 1), (.iconst 1, 1), (.iadd, 1), (.iaload, 1)] 1052 (by decide +kernel)
theorem dL_law_1052 : decode cL_law 1052 = .ok (.pop, 1) := eL_law_1052.1
theorem dL_law_1053 : decode cL_law 1053 = .ok (.goto 743, 3) := eL_law_1052.2.1
theorem dL_law_1056 : decode cL_law 1056 = .ok (.aload_n 1, 1) := eL_law_1052.2.2.1
theorem dL_law_1057 : decode cL_law 1057 = .ok (.aload_n 0, 1) := eL_law_1052.2.2.2.1
theorem dL_law_1058 : decode cL_law 1058 = .ok (.iload_n 3, 1) := eL_law_1052.2.2.2.2.1
theorem dL_law_1059 : decode cL_law 1059 = .ok (.iconst 1, 1) := eL_law_1052.2.2.2.2.2.1
theorem dL_law_1060 : decode cL_law 1060 = .ok (.iadd, 1) := eL_law_1052.2.2.2.2.2.2.1
theorem dL_law_1061 : decode cL_law 1061 = .ok (.iaload, 1) := eL_law_1052.2.2.2.2.2.2.2.1
theorem eL_law_1062 : decode cL_law 1062 = .ok (.invokevirtual 121, 3) ∧ decode cL_law 1065 = .ok (.pop, 1) ∧ decode cL_law 1066 = .ok (.aload_n 2, 1) ∧ decode cL_law 1067 = .ok (.aload_n 0, 1) ∧ decode cL_law 1068 = .ok (.iload_n 3, 1) ∧ decode cL_law 1069 = .ok (.iconst 1, 1) ∧ decode cL_law 1070 = .ok (.iadd, 1) ∧ decode cL_law 1071 = .ok (.iaload, 1) ∧ True := dkl_ok (c := cL_law) [(.invokevirtual 121, 3), (.pop, 1), (.aload_n 2, 1), (.aload_n 0, 1), (.iload_n 3, 1), (.iconst 1, 1), (.iadd, 1), (.iaload, 1)] 1062 (by decide +kernel)
theorem dL_law_1062 : decode cL_law 1062 = .ok (.invokevirtual 121, 3) := eL_law_1062.1
theorem dL_law_1065 : decode cL_law 1065 = .ok (.pop, 1) := eL_law_1062.2.1
theorem dL_law_1066 : decode cL_law 1066 = .ok (.aload_n 2, 1) := eL_law_1062.2.2.1
theorem dL_law_1067 : decode cL_law 1067 = .ok (.aload_n 0, 1) := eL_law_1062.2.2.2.1
theorem dL_law_1068 : decode cL_law 1068 = .ok (.iload_n 3, 1) := eL_law_1062.2.2.2.2.1
theorem dL_law_1069 : decode cL_law 1069 = .ok (.iconst 1, 1) := eL_law_1062.2.2.2.2.2.1
theorem dL_law_1070 : decode cL_law 1070 = .ok (.iadd, 1) := eL_law_1062.2.2.2.2.2.2.1
theorem dL_law_1071 : decode cL_law 1071 = .ok (.iaload, 1) := eL_law_1062.2.2.2.2.2.2.2.1
theorem eL_law_1072 : decode cL_law 1072 = .ok (.invokevirtual 124, 3) ∧ decode cL_law 1075 = .ok (.pop, 1) ∧ decode cL_law 1076 = .ok (.goto 720, 3) ∧ decode cL_law 1079 = .ok (.aload_n 1, 1) ∧ decode cL_law 1080 = .ok (.aload_n 0, 1) ∧ decode cL_law 1081 = .ok (.iload_n 3, 1) ∧ decode cL_law 1082 = .ok (.iconst 1, 1) ∧ decode cL_law 1083 = .ok (.iadd, 1) ∧ True := dkl_ok (c := cL_law) [(.invokevirtual 124, 3), (.pop, 1), (.goto 720, 3), (.aload_n 1, 1), (.aload_n 0, 1), (.iload_n 3, 1), (.iconst 1, 1), (.iadd, 1)] 1072 (by decide +kernel)
theorem dL_law_1072 : decode cL_law 1072 = .ok (.invokevirtual 124, 3) := eL_law_1072.1
theorem dL_law_1075 : decode cL_law 1075 = .ok (.pop, 1) := eL_law_1072.2.1
theorem dL_law_1076 : decode cL_law 1076 = .ok (.goto 720, 3) := eL_law_1072.2.2.1
theorem dL_law_1079 : decode cL_law 1079 = .ok (.aload_n 1, 1) := eL_law_1072.2.2.2.1
theorem dL_law_1080 : decode cL_law 1080 = .ok (.aload_n 0, 1) := eL_law_1072.2.2.2.2.1
theorem dL_law_1081 : decode cL_law 1081 = .ok (.iload_n 3, 1) := eL_law_1072.2.2.2.2.2.1
theorem dL_law_1082 : decode cL_law 1082 = .ok (.iconst 1, 1) := eL_law_1072.2.2.2.2.2.2.1
theorem dL_law_1083 : decode cL_law 1083 = .ok (.iadd, 1) := eL_law_1072.2.2.2.2.2.2.2.1
theorem eL_law_1084 : decode cL_law 1084 = .ok (.iaload, 1) ∧ decode cL_law 1085 = .ok (.invokevirtual 125, 3) ∧ decode cL_law 1088 = .ok (.pop, 1) ∧ decode cL_law 1089 = .ok (.aload_n 2, 1) ∧ decode cL_law 1090 = .ok (.aload_n 0, 1) ∧ decode cL_law 1091 = .ok (.iload_n 3, 1) ∧ decode cL_law 1092 = .ok (.iconst 1, 1) ∧ decode cL_law 1093 = .ok (.iadd, 1) ∧ True := dkl_ok (c := cL_law) [(.iaload, 1), (.invokevirtual 125, 3), (.pop, 1), (.aload_n 2, 1), (.aload_n 0, 1), (.iload_n 3, 1), (.iconst 1, 1), (.iadd, 1)] 1084 (by decide +kernel)
theorem dL_law_1084 : decode cL_law 1084 = .ok (.iaload, 1) := eL_law_1084.1
theorem dL_law_1085 : decode cL_law 1085 = .ok (.invokevirtual 125, 3) := eL_law_1084.2.1
theorem dL_law_1088 : decode cL_law 1088 = .ok (.pop, 1) := eL_law_1084.2.2.1
theorem dL_law_1089 : decode cL_law 1089 = .ok (.aload_n 2, 1) := eL_law_1084.2.2.2.1
theorem dL_law_1090 : decode cL_law 1090 = .ok (.aload_n 0, 1) := eL_law_1084.2.2.2.2.1
theorem dL_law_1091 : decode cL_law 1091 = .ok (.iload_n 3, 1) := eL_law_1084.2.2.2.2.2.1
theorem dL_law_1092 : decode cL_law 1092 = .ok (.iconst 1, 1) := eL_law_1084.2.2.2.2.2.2.1
theorem dL_law_1093 : decode cL_law 1093 = .ok (.iadd, 1) := eL_law_1084.2.2.2.2.2.2.2.1
theorem eL_law_1094 : decode cL_law 1094 = .ok (.iaload, 1) ∧ decode cL_law 1095 = .ok (.invokevirtual 129, 3) ∧ decode cL_law 1098 = .ok (.pop, 1) ∧ decode cL_law 1099 = .ok (.goto 697, 3) ∧ decode cL_law 1102 = .ok (.aload_n 1, 1) ∧ decode cL_law 1103 = .ok (.aload_n 0, 1) ∧ decode cL_law 1104 = .ok (.iload_n 3, 1) ∧ decode cL_law 1105 = .ok (.iconst 1, 1) ∧ True := dkl_ok (c := cL_law) [(.iaload, 1), (.invokevirtual 129, 3), (.pop, 1), (.goto 697, 3), (.aload_n 1, 1), (.aload_n 0, 1), (.iload_n 3, 1), (.iconst 1, 1)] 1094 (by decide +kernel)
theorem dL_law_1094 : decode cL_law 1094 = .ok (.iaload, 1) := eL_law_1094.1
theorem dL_law_1095 : decode cL_law 1095 = .ok (.invokevirtual 129, 3) := eL_law_1094.2.1
theorem dL_law_1098 : decode cL_law 1098 = .ok (.pop, 1) := eL_law_1094.2.2.1
theorem dL_law_1099 : decode cL_law 1099 = .ok (.goto 697, 3) := eL_law_1094.2.2.2.1
theorem dL_law_1102 : decode cL_law 1102 = .ok (.aload_n 1, 1) := eL_law_1094.2.2.2.2.1
theorem dL_law_1103 : decode cL_law 1103 = .ok (.aload_n 0, 1) := eL_law_1094.2.2.2.2.2.1
theorem dL_law_1104 : decode cL_law 1104 = .ok (.iload_n 3, 1) := eL_law_1094.2.2.2.2.2.2.1
theorem dL_law_1105 : decode cL_law 1105 = .ok (.iconst 1, 1) := eL_law_1094.2.2.2.2.2.2.2.1
theorem eL_law_1106 : decode cL_law 1106 = .ok (.iadd, 1) ∧ decode cL_law 1107 = .ok (.iaload, 1) ∧ decode cL_law 1108 = .ok (.invokevirtual 130, 3) ∧ decode cL_law 1111 = .ok (.pop, 1) ∧ decode cL_law 1112 = .ok (.aload_n 2, 1) ∧ decode cL_law 1113 = .ok (.aload_n 0, 1) ∧ decode cL_law 1114 = .ok (.iload_n 3, 1) ∧ decode cL_law 1115 = .ok (.iconst 1, 1) ∧ True := dkl_ok (c := cL_law) [(.iadd, 1), (.iaload, 1), (.invokevirtual 130, 3), (.pop, 1), (.aload_n 2, 1), (.aload_n 0, 1), (.iload_n 3, 1), (.iconst 1, 1)] 1106 (by decide +kernel)
theorem dL_law_1106 : decode cL_law 1106 = .ok (.iadd, 1) := eL_law_1106.1
theorem dL_law_1107 : decode cL_law 1107 = .ok (.iaload, 1) := eL_law_1106.2.1
theorem dL_law_1108 : decode cL_law 1108 = .ok (.invokevirtual 130, 3) := eL_law_1106.2.2.1
theorem dL_law_1111 : decode cL_law 1111 = .ok (.pop, 1) := eL_law_1106.2.2.2.1
theorem dL_law_1112 : decode cL_law 1112 = .ok (.aload_n 2, 1) := eL_law_1106.2.2.2.2.1
theorem dL_law_1113 : decode cL_law 1113 = .ok (.aload_n 0, 1) := eL_law_1106.2.2.2.2.2.1
theorem dL_law_1114 : decode cL_law 1114 = .ok (.iload_n 3, 1) := eL_law_1106.2.2.2.2.2.2.1
theorem dL_law_1115 : decode cL_law 1115 = .ok (.iconst 1, 1) := eL_law_1106.2.2.2.2.2.2.2.1
theorem eL_law_1116 : decode cL_law 1116 = .ok (.iadd, 1) ∧ decode cL_law 1117 = .ok (.iaload, 1) ∧ decode cL_law 1118 = .ok (.invokevirtual 133, 3) ∧ decode cL_law 1121 = .ok (.pop, 1) ∧ decode cL_law 1122 = .ok (.goto 674, 3) ∧ decode cL_law 1125 = .ok (.aload_n 1, 1) ∧ decode cL_law 1126 = .ok (.aload_n 0, 1) ∧ decode cL_law 1127 = .ok (.iload_n 3, 1) ∧ True := dkl_ok (c := cL_law) [(.iadd, 1), (.iaload, 1), (.invokevirtual 133, 3), (.pop, 1), (.goto 674, 3), (.aload_n 1, 1), (.aload_n 0, 1), (.iload_n 3, 1)] 1116 (by decide +kernel)
theorem dL_law_1116 : decode cL_law 1116 = .ok (.iadd, 1) := eL_law_1116.1
theorem dL_law_1117 : decode cL_law 1117 = .ok (.iaload, 1) := eL_law_1116.2.1
theorem dL_law_1118 : decode cL_law 1118 = .ok (.invokevirtual 133, 3) := eL_law_1116.2.2.1
theorem dL_law_1121 : decode cL_law 1121 = .ok (.pop, 1) := eL_law_1116.2.2.2.1
theorem dL_law_1122 : decode cL_law 1122 = .ok (.goto 674, 3) := eL_law_1116.2.2.2.2.1
theorem dL_law_1125 : decode cL_law 1125 = .ok (.aload_n 1, 1) := eL_law_1116.2.2.2.2.2.1
theorem dL_law_1126 : decode cL_law 1126 = .ok (.aload_n 0, 1) := eL_law_1116.2.2.2.2.2.2.1
theorem dL_law_1127 : decode cL_law 1127 = .ok (.iload_n 3, 1) := eL_law_1116.2.2.2.2.2.2.2.1
theorem eL_law_1128 : decode cL_law 1128 = .ok (.iconst 1, 1) ∧ decode cL_law 1129 = .ok (.iadd, 1) ∧ decode cL_law 1130 = .ok (.iaload, 1) ∧ decode cL_law 1131 = .ok (.invokevirtual 134, 3) ∧ decode cL_law 1134 = .ok (.pop, 1) ∧ decode cL_law 1135 = .ok (.aload_n 2, 1) ∧ decode cL_law 1136 = .ok (.aload_n 0, 1) ∧ decode cL_law 1137 = .ok (.iload_n 3, 1) ∧ True := dkl_ok (c := cL_law) [(.iconst 1, 1), (.iadd, 1), (.iaload, 1), (.invokevirtual 134, 3), (.pop, 1), (.aload_n 2, 1), (.aload_n 0, 1), (.iload_n 3, 1)] 1128 (by decide +kernel)
theorem dL_law_1128 : decode cL_law 1128 = .ok (.iconst 1, 1) := eL_law_1128.1
theorem dL_law_1129 : decode cL_law 1129 = .ok (.iadd, 1) := eL_law_1128.2.1
theorem dL_law_1130 : decode cL_law 1130 = .ok (.iaload, 1) := eL_law_1128.2.2.1
theorem dL_law_1131 : decode cL_law 1131 = .ok (.invokevirtual 134, 3) := eL_law_1128.2.2.2.1
theorem dL_law_1134 : decode cL_law 1134 = .ok (.pop, 1) := eL_law_1128.2.2.2.2.1
theorem dL_law_1135 : decode cL_law 1135 = .ok (.aload_n 2, 1) := eL_law_1128.2.2.2.2.2.1
theorem dL_law_1136 : decode cL_law 1136 = .ok (.aload_n 0, 1) := eL_law_1128.2.2.2.2.2.2.1
theorem dL_law_1137 : decode cL_law 1137 = .ok (.iload_n 3, 1) := eL_law_1128.2.2.2.2.2.2.2.1
theorem eL_law_1138 : decode cL_law 1138 = .ok (.iconst 1, 1) ∧ decode cL_law 1139 = .ok (.iadd, 1) ∧ decode cL_law 1140 = .ok (.iaload, 1) ∧ decode cL_law 1141 = .ok (.invokevirtual 137, 3) ∧ decode cL_law 1144 = .ok (.pop, 1) ∧ decode cL_law 1145 = .ok (.goto 651, 3) ∧ decode cL_law 1148 = .ok (.aload_n 1, 1) ∧ decode cL_law 1149 = .ok (.aload_n 0, 1) ∧ True := dkl_ok (c := cL_law) [(.iconst 1, 1), (.iadd, 1), (.iaload, 1), (.invokevirtual 137, 3), (.pop, 1), (.goto 651, 3), (.aload_n 1, 1), (.aload_n 0, 1)] 1138 (by decide +kernel)
theorem dL_law_1138 : decode cL_law 1138 = .ok (.iconst 1, 1) := eL_law_1138.1
theorem dL_law_1139 : decode cL_law 1139 = .ok (.iadd, 1) := eL_law_1138.2.1
theorem dL_law_1140 : decode cL_law 1140 = .ok (.iaload, 1) := eL_law_1138.2.2.1
theorem dL_law_1141 : decode cL_law 1141 = .ok (.invokevirtual 137, 3) := eL_law_1138.2.2.2.1
theorem dL_law_1144 : decode cL_law 1144 = .ok (.pop, 1) := eL_law_1138.2.2.2.2.1
theorem dL_law_1145 : decode cL_law 1145 = .ok (.goto 651, 3) := eL_law_1138.2.2.2.2.2.1
theorem dL_law_1148 : decode cL_law 1148 = .ok (.aload_n 1, 1) := eL_law_1138.2.2.2.2.2.2.1
theorem dL_law_1149 : decode cL_law 1149 = .ok (.aload_n 0, 1) := eL_law_1138.2.2.2.2.2.2.2.1
theorem eL_law_1150 : decode cL_law 1150 = .ok (.iload_n 3, 1) ∧ decode cL_law 1151 = .ok (.iconst 1, 1) ∧ decode cL_law 1152 = .ok (.iadd, 1) ∧ decode cL_law 1153 = .ok (.iaload, 1) ∧ decode cL_law 1154 = .ok (.invokevirtual 138, 3) ∧ decode cL_law 1157 = .ok (.pop, 1) ∧ decode cL_law 1158 = .ok (.aload_n 2, 1) ∧ decode cL_law 1159 = .ok (.aload_n 0, 1) ∧ True := dkl_ok (c := cL_law) [(.iload_n 3, 1), (.iconst 1, 1), (.iadd, 1), (.iaload, 1), (.invokevirtual 138, 3), (.pop, 1), (.aload_n 2, 1), (.aload_n 0, 1)] 1150 (by decide +kernel)
theorem dL_law_1150 : decode cL_law 1150 = .ok (.iload_n 3, 1) := eL_law_1150.1
theorem dL_law_1151 : decode cL_law 1151 = .ok (.iconst 1, 1) := eL_law_1150.2.1
theorem dL_law_1152 : decode cL_law 1152 = .ok (.iadd, 1) := eL_law_1150.2.2.1
theorem dL_law_1153 : decode cL_law 1153 = .ok (.iaload, 1) := eL_law_1150.2.2.2.1
theorem dL_law_1154 : decode cL_law 1154 = .ok (.invokevirtual 138, 3) := eL_law_1150.2.2.2.2.1
theorem dL_law_1157 : decode cL_law 1157 = .ok (.pop, 1) := eL_law_1150.2.2.2.2.2.1
theorem dL_law_1158 : decode cL_law 1158 = .ok (.aload_n 2, 1) := eL_law_1150.2.2.2.2.2.2.1
theorem dL_law_1159 : decode cL_law 1159 = .ok (.aload_n 0, 1) := eL_law_1150.2.2.2.2.2.2.2.1
theorem eL_law_1160 : decode cL_law 1160 = .ok (.iload_n 3, 1) ∧ decode cL_law 1161 = .ok (.iconst 1, 1) ∧ decode cL_law 1162 = .ok (.iadd, 1) ∧ decode cL_law 1163 = .ok (.iaload, 1) ∧ decode cL_law 1164 = .ok (.invokevirtual 141, 3) ∧ decode cL_law 1167 = .ok (.pop, 1) ∧ decode cL_law 1168 = .ok (.goto 628, 3) ∧ decode cL_law 1171 = .ok (.aload_n 1, 1) ∧ True := dkl_ok (c := cL_law) [(.iload_n 3, 1), (.iconst 1, 1), (.iadd, 1), (.iaload, 1), (.invokevirtual 141, 3), (.pop, 1), (.goto 628, 3), (.aload_n 1, 1)] 1160 (by decide +kernel)
theorem dL_law_1160 : decode cL_law 1160 = .ok (.iload_n 3, 1) := eL_law_1160.1
theorem dL_law_1161 : decode cL_law 1161 = .ok (.iconst 1, 1) := eL_law_1160.2.1
theorem dL_law_1162 : decode cL_law 1162 = .ok (.iadd, 1) := eL_law_1160.2.2.1
theorem dL_law_1163 : decode cL_law 1163 = .ok (.iaload, 1) := eL_law_1160.2.2.2.1
theorem dL_law_1164 : decode cL_law 1164 = .ok (.invokevirtual 141, 3) := eL_law_1160.2.2.2.2.1
theorem dL_law_1167 : decode cL_law 1167 = .ok (.pop, 1) := eL_law_1160.2.2.2.2.2.1
theorem dL_law_1168 : decode cL_law 1168 = .ok (.goto 628, 3) := eL_law_1160.2.2.2.2.2.2.1
theorem dL_law_1171 : decode cL_law 1171 = .ok (.aload_n 1, 1) := eL_law_1160.2.2.2.2.2.2.2.1
theorem eL_law_1172 : decode cL_law 1172 = .ok (.invokevirtual 142, 3) ∧ decode cL_law 1175 = .ok (.pop, 1) ∧ decode cL_law 1176 = .ok (.aload_n 2, 1) ∧ decode cL_law 1177 = .ok (.invokevirtual 145, 3) ∧ decode cL_law 1180 = .ok (.pop, 1) ∧ decode cL_law 1181 = .ok (.goto 615, 3) ∧ decode cL_law 1184 = .ok (.aload_n 1, 1) ∧ decode cL_law 1185 = .ok (.aload_n 0, 1) ∧ True := dkl_ok (c := cL_law) [(.invokevirtual 142, 3), (.pop, 1), (.aload_n 2, 1), (.invokevirtual 145, 3), (.pop, 1), (.goto 615, 3), (.aload_n 1, 1), (.aload_n 0, 1)] 1172 (by decide +kernel)
theorem dL_law_1172 : decode cL_law 1172 = .ok (.invokevirtual 142, 3) := eL_law_1172.1
theorem dL_law_1175 : decode cL_law 1175 = .ok (.pop, 1) := eL_law_1172.2.1
theorem dL_law_1176 : decode cL_law 1176 = .ok (.aload_n 2, 1) := eL_law_1172.2.2.1
theorem dL_law_1177 : decode cL_law 1177 = .ok (.invokevirtual 145, 3) := eL_law_1172.2.2.2.1
theorem dL_law_1180 : decode cL_law 1180 = .ok (.pop, 1) := eL_law_1172.2.2.2.2.1
theorem dL_law_1181 : decode cL_law 1181 = .ok (.goto 615, 3) := eL_law_1172.2.2.2.2.2.1
theorem dL_law_1184 : decode cL_law 1184 = .ok (.aload_n 1, 1) := eL_law_1172.2.2.2.2.2.2.1
theorem dL_law_1185 : decode cL_law 1185 = .ok (.aload_n 0, 1) := eL_law_1172.2.2.2.2.2.2.2.1
theorem eL_law_1186 : decode cL_law 1186 = .ok (.iload_n 3, 1) ∧ decode cL_law 1187 = .ok (.iconst 1, 1) ∧ decode cL_law 1188 = .ok (.iadd, 1) ∧ decode cL_law 1189 = .ok (.iaload, 1) ∧ decode cL_law 1190 = .ok (.aload_n 0, 1) ∧ decode cL_law 1191 = .ok (.iload_n 3, 1) ∧ decode cL_law 1192 = .ok (.iconst 2, 1) ∧ decode cL_law 1193 = .ok (.iadd, 1) ∧ True := dkl_ok (c := cL_law) [(.iload_n 3, 1), (.iconst 1, 1), (.iadd, 1), (.iaload, 1), (.aload_n 0, 1), (.iload_n 3, 1), (.iconst 2, 1), (.iadd, 1)] 1186 (by decide +kernel)
theorem dL_law_1186 : decode cL_law 1186 = .ok (.iload_n 3, 1) := eL_law_1186.1
theorem dL_law_1187 : decode cL_law 1187 = .ok (.iconst 1, 1) := eL_law_1186.2.1
theorem dL_law_1188 : decode cL_law 1188 = .ok (.iadd, 1) := eL_law_1186.2.2.1
theorem dL_law_1189 : decode cL_law 1189 = .ok (.iaload, 1) := eL_law_1186.2.2.2.1
theorem dL_law_1190 : decode cL_law 1190 = .ok (.aload_n 0, 1) := eL_law_1186.2.2.2.2.1
theorem dL_law_1191 : decode cL_law 1191 = .ok (.iload_n 3, 1) := eL_law_1186.2.2.2.2.2.1
theorem dL_law_1192 : decode cL_law 1192 = .ok (.iconst 2, 1) := eL_law_1186.2.2.2.2.2.2.1
theorem dL_law_1193 : decode cL_law 1193 = .ok (.iadd, 1) := eL_law_1186.2.2.2.2.2.2.2.1
theorem eL_law_1194 : decode cL_law 1194 = .ok (.iaload, 1) ∧ decode cL_law 1195 = .ok (.invokevirtual 146, 3) ∧ decode cL_law 1198 = .ok (.pop, 1) ∧ decode cL_law 1199 = .ok (.aload_n 2, 1) ∧ decode cL_law 1200 = .ok (.aload_n 0, 1) ∧ decode cL_law 1201 = .ok (.iload_n 3, 1) ∧ decode cL_law 1202 = .ok (.iconst 1, 1) ∧ decode cL_law 1203 = .ok (.iadd, 1) ∧ True := dkl_ok (c := cL_law) [(.iaload, 1), (.invokevirtual 146, 3), (.pop, 1), (.aload_n 2, 1), (.aload_n 0, 1), (.iload_n 3, 1), (.iconst 1, 1), (.iadd, 1)] 1194 (by decide +kernel)
theorem dL_law_1194 : decode cL_law 1194 = .ok (.iaload, 1) := eL_law_1194.1
theorem dL_law_1195 : decode cL_law 1195 = .ok (.invokevirtual 146, 3) := eL_law_1194.2.1
theorem dL_law_1198 : decode cL_law 1198 = .ok (.pop, 1) := eL_law_1194.2.2.1
theorem dL_law_1199 : decode cL_law 1199 = .ok (.aload_n 2, 1) := eL_law_1194.2.2.2.1
theorem dL_law_1200 : decode cL_law 1200 = .ok (.aload_n 0, 1) := eL_law_1194.2.2.2.2.1
theorem dL_law_1201 : decode cL_law 1201 = .ok (.iload_n 3, 1) := eL_law_1194.2.2.2.2.2.1
theorem dL_law_1202 : decode cL_law 1202 = .ok (.iconst 1, 1) := eL_law_1194.2.2.2.2.2.2.1
theorem dL_law_1203 : decode cL_law 1203 = .ok (.iadd, 1) := eL_law_1194.2.2.2.2.2.2.2.1
theorem eL_law_1204 : decode cL_law 1204 = .ok (.iaload, 1) ∧ decode cL_law 1205 = .ok (.aload_n 0, 1) ∧ decode cL_law 1206 = .ok (.iload_n 3, 1) ∧ decode cL_law 1207 = .ok (.iconst 2, 1) ∧ decode cL_law 1208 = .ok (.iadd, 1) ∧ decode cL_law 1209 = .ok (.iaload, 1) ∧ decode cL_law 1210 = .ok (.invokevirtual 150, 3) ∧ decode cL_law 1213 = .ok (.pop, 1) ∧ True := dkl_ok (c := cL_law) [(.iaload, 1), (.aload_n 0, 1), (.iload_n 3, 1), (.iconst 2, 1), (.iadd, 1), (.iaload, 1), (.invokevirtual 150, 3), (.pop, 1)] 1204 (by decide +kernel)
theorem dL_law_1204 : decode cL_law 1204 = .ok (.iaload, 1) := eL_law_1204.1
theorem dL_law_1205 : decode cL_law 1205 = .ok (.aload_n 0, 1) := eL_law_1204.2.1
theorem dL_law_1206 : decode cL_law 1206 = .ok (.iload_n 3, 1) := eL_law_1204.2.2.1
theorem dL_law_1207 : decode cL_law 1207 = .ok (.iconst 2, 1) := eL_law_1204.2.2.2.1
theorem dL_law_1208 : decode cL_law 1208 = .ok (.iadd, 1) := eL_law_1204.2.2.2.2.1
theorem dL_law_1209 : decode cL_law 1209 = .ok (.iaload, 1) := eL_law_1204.2.2.2.2.2.1
theorem dL_law_1210 : decode cL_law 1210 = .ok (.invokevirtual 150, 3) := eL_law_1204.2.2.2.2.2.2.1
theorem dL_law_1213 : decode cL_law 1213 = .ok (.pop, 1) := eL_law_1204.2.2.2.2.2.2.2.1
theorem eL_law_1214 : decode cL_law 1214 = .ok (.goto 582, 3) ∧ decode cL_law 1217 = .ok (.aload_n 1, 1) ∧ decode cL_law 1218 = .ok (.aload_n 0, 1) ∧ decode cL_law 1219 = .ok (.iload_n 3, 1) ∧ decode cL_law 1220 = .ok (.iconst 1, 1) ∧ decode cL_law 1221 = .ok (.iadd, 1) ∧ decode cL_law 1222 = .ok (.iaload, 1) ∧ decode cL_law 1223 = .ok (.aload_n 0, 1) ∧ True := dkl_ok (c := cL_law) [(.goto 582, 3), (.aload_n 1, 1), (.aload_n 0, 1), (.iload_n 3, 1), (.iconst 1, 1), (.iadd, 1), (.iaload, 1), (.aload_n 0, 1)] 1214 (by decide +kernel)
theorem dL_law_1214 : decode cL_law 1214 = .ok (.goto 582, 3) := eL_law_1214.1
theorem dL_law_1217 : decode cL_law 1217 = .ok (.aload_n 1, 1) := eL_law_1214.2.1
theorem dL_law_1218 : decode cL_law 1218 = .ok (.aload_n 0, 1) := eL_law_1214.2.2.1
theorem dL_law_1219 : decode cL_law 1219 = .ok (.iload_n 3, 1) := eL_law_1214.2.2.2.1
theorem dL_law_1220 : decode cL_law 1220 = .ok (.iconst 1, 1) := eL_law_1214.2.2.2.2.1
theorem dL_law_1221 : decode cL_law 1221 = .ok (.iadd, 1) := eL_law_1214.2.2.2.2.2.1
theorem dL_law_1222 : decode cL_law 1222 = .ok (.iaload, 1) := eL_law_1214.2.2.2.2.2.2.1
theorem dL_law_1223 : decode cL_law 1223 = .ok (.aload_n 0, 1) := eL_law_1214.2.2.2.2.2.2.2.1
theorem eL_law_1224 : decode cL_law 1224 = .ok (.iload_n 3, 1) ∧ decode cL_law 1225 = .ok (.iconst 2, 1) ∧ decode cL_law 1226 = .ok (.iadd, 1) ∧ decode cL_law 1227 = .ok (.iaload, 1) ∧ decode cL_law 1228 = .ok (.invokevirtual 151, 3) ∧ decode cL_law 1231 = .ok (.pop, 1) ∧ decode cL_law 1232 = .ok (.aload_n 2, 1) ∧ decode cL_law 1233 = .ok (.aload_n 0, 1) ∧ True := dkl_ok (c := cL_law) [(.iload_n 3, 1), (.iconst 2, 1), (.iadd, 1), (.iaload, 1), (.invokevirtual 151, 3), (.pop, 1), (.aload_n 2, 1), (.aload_n 0, 1)] 1224 (by decide +kernel)
theorem dL_law_1224 : decode cL_law 1224 = .ok (.iload_n 3, 1) := eL_law_1224.1
theorem dL_law_1225 : decode cL_law 1225 = .ok (.iconst 2, 1) := eL_law_1224.2.1
theorem dL_law_1226 : decode cL_law 1226 = .ok (.iadd, 1) := eL_law_1224.2.2.1
theorem dL_law_1227 : decode cL_law 1227 = .ok (.iaload, 1) := eL_law_1224.2.2.2.1
theorem dL_law_1228 : decode cL_law 1228 = .ok (.invokevirtual 151, 3) := eL_law_1224.2.2.2.2.1
theorem dL_law_1231 : decode cL_law 1231 = .ok (.pop, 1) := eL_law_1224.2.2.2.2.2.1
theorem dL_law_1232 : decode cL_law 1232 = .ok (.aload_n 2, 1) := eL_law_1224.2.2.2.2.2.2.1
theorem dL_law_1233 : decode cL_law 1233 = .ok (.aload_n 0, 1) := eL_law_1224.2.2.2.2.2.2.2.1
theorem eL_law_1234 : decode cL_law 1234 = .ok (.iload_n 3, 1) ∧ decode cL_law 1235 = .ok (.iconst 1, 1) ∧ decode cL_law 1236 = .ok (.iadd, 1) ∧ decode cL_law 1237 = .ok (.iaload, 1) ∧ decode cL_law 1238 = .ok (.aload_n 0, 1) ∧ decode cL_law 1239 = .ok (.iload_n 3, 1) ∧ decode cL_law 1240 = .ok (.iconst 2, 1) ∧ decode cL_law 1241 = .ok (.iadd, 1) ∧ True := dkl_ok (c := cL_law) [(.iload_n 3, 1), (.iconst 1, 1), (.iadd, 1), (.iaload, 1), (.aload_n 0, 1), (.iload_n 3, 1), (.iconst 2, 1), (.iadd, 1)] 1234 (by decide +kernel)
theorem dL_law_1234 : decode cL_law 1234 = .ok (.iload_n 3, 1) := eL_law_1234.1
theorem dL_law_1235 : decode cL_law 1235 = .ok (.iconst 1, 1) := eL_law_1234.2.1
theorem dL_law_1236 : decode cL_law 1236 = .ok (.iadd, 1) := eL_law_1234.2.2.1
theorem dL_law_1237 : decode cL_law 1237 = .ok (.iaload, 1) := eL_law_1234.2.2.2.1
theorem dL_law_1238 : decode cL_law 1238 = .ok (.aload_n 0, 1) := eL_law_1234.2.2.2.2.1
theorem dL_law_1239 : decode cL_law 1239 = .ok (.iload_n 3, 1) := eL_law_1234.2.2.2.2.2.1
theorem dL_law_1240 : decode cL_law 1240 = .ok (.iconst 2, 1) := eL_law_1234.2.2.2.2.2.2.1
theorem dL_law_1241 : decode cL_law 1241 = .ok (.iadd, 1) := eL_law_1234.2.2.2.2.2.2.2.1
theorem eL_law_1242 : decode cL_law 1242 = .ok (.iaload, 1) ∧ decode cL_law 1243 = .ok (.invokevirtual 154, 3) ∧ decode cL_law 1246 = .ok (.pop, 1) ∧ decode cL_law 1247 = .ok (.goto 549, 3) ∧ decode cL_law 1250 = .ok (.aload_n 1, 1) ∧ decode cL_law 1251 = .ok (.aload_n 0, 1) ∧ decode cL_law 1252 = .ok (.iload_n 3, 1) ∧ decode cL_law 1253 = .ok (.iconst 1, 1) ∧ True := dkl_ok (c := cL_law) [(.iaload, 1), (.invokevirtual 154, 3), (.pop, 1), (.goto 549, 3), (.aload_n 1, 1), (.aload_n 0, 1), (.iload_n 3, 1), (.iconst 1, 1)] 1242 (by decide +kernel)
theorem dL_law_1242 : decode cL_law 1242 = .ok (.iaload, 1) := eL_law_1242.1
theorem dL_law_1243 : decode cL_law 1243 = .ok (.invokevirtual 154, 3) := eL_law_1242.2.1
theorem dL_law_1246 : decode cL_law 1246 = .ok (.pop, 1) := eL_law_1242.2.2.1
theorem dL_law_1247 : decode cL_law 1247 = .ok (.goto 549, 3) := eL_law_1242.2.2.2.1
theorem dL_law_1250 : decode cL_law 1250 = .ok (.aload_n 1, 1) := eL_law_1242.2.2.2.2.1
theorem dL_law_1251 : decode cL_law 1251 = .ok (.aload_n 0, 1) := eL_law_1242.2.2.2.2.2.1
theorem dL_law_1252 : decode cL_law 1252 = .ok (.iload_n 3, 1) := eL_law_1242.2.2.2.2.2.2.1
theorem dL_law_1253 : decode cL_law 1253 = .ok (.iconst 1, 1) := eL_law_1242.2.2.2.2.2.2.2.1
theorem eL_law_1254 : decode cL_law 1254 = .ok (.iadd, 1) ∧ decode cL_law 1255 = .ok (.iaload, 1) ∧ decode cL_law 1256 = .ok (.invokevirtual 155, 3) ∧ decode cL_law 1259 = .ok (.pop, 1) ∧ decode cL_law 1260 = .ok (.aload_n 2, 1) ∧ decode cL_law 1261 = .ok (.aload_n 0, 1) ∧ decode cL_law 1262 = .ok (.iload_n 3, 1) ∧ decode cL_law 1263 = .ok (.iconst 1, 1) ∧ True := dkl_ok (c := cL_law) [(.iadd, 1), (.iaload, 1), (.invokevirtual 155, 3), (.pop, 1), (.aload_n 2, 1), (.aload_n 0, 1), (.iload_n 3, 1), (.iconst 1, 1)] 1254 (by decide +kernel)
theorem dL_law_1254 : decode cL_law 1254 = .ok (.iadd, 1) := eL_law_1254.1
theorem dL_law_1255 : decode cL_law 1255 = .ok (.iaload, 1) := eL_law_1254.2.1
theorem dL_law_1256 : decode cL_law 1256 = .ok (.invokevirtual 155, 3) := eL_law_1254.2.2.1
theorem dL_law_1259 : decode cL_law 1259 = .ok (.pop, 1) := eL_law_1254.2.2.2.1
theorem dL_law_1260 : decode cL_law 1260 = .ok (.aload_n 2, 1) := eL_law_1254.2.2.2.2.1
theorem dL_law_1261 : decode cL_law 1261 = .ok (.aload_n 0, 1) := eL_law_1254.2.2.2.2.2.1
theorem dL_law_1262 : decode cL_law 1262 = .ok (.iload_n 3, 1) := eL_law_1254.2.2.2.2.2.2.1
theorem dL_law_1263 : decode cL_law 1263 = .ok (.iconst 1, 1) := eL_law_1254.2.2.2.2.2.2.2.1
theorem eL_law_1264 : decode cL_law 1264 = .ok (.iadd, 1) ∧ decode cL_law 1265 = .ok (.iaload, 1) ∧ decode cL_law 1266 = .ok (.invokevirtual 158, 3) ∧ decode cL_law 1269 = .ok (.pop, 1) ∧ decode cL_law 1270 = .ok (.goto 526, 3) ∧ decode cL_law 1273 = .ok (.aload_n 1, 1) ∧ decode cL_law 1274 = .ok (.aload_n 0, 1) ∧ decode cL_law 1275 = .ok (.iload_n 3, 1) ∧ True := dkl_ok (c := cL_law) [(.iadd, 1), (.iaload, 1), (.invokevirtual 158, 3), (.pop, 1), (.goto 526, 3), (.aload_n 1, 1), (.aload_n 0, 1), (.iload_n 3, 1)] 1264 (by decide +kernel)
theorem dL_law_1264 : decode cL_law 1264 = .ok (.iadd, 1) := eL_law_1264.1
theorem dL_law_1265 : decode cL_law 1265 = .ok (.iaload, 1) := eL_law_1264.2.1
theorem dL_law_1266 : decode cL_law 1266 = .ok (.invokevirtual 158, 3) := eL_law_1264.2.2.1
theorem dL_law_1269 : decode cL_law 1269 = .ok (.pop, 1) := eL_law_1264.2.2.2.1
theorem dL_law_1270 : decode cL_law 1270 = .ok (.goto 526, 3) := eL_law_1264.2.2.2.2.1
theorem dL_law_1273 : decode cL_law 1273 = .ok (.aload_n 1, 1) := eL_law_1264.2.2.2.2.2.1
theorem dL_law_1274 : decode cL_law 1274 = .ok (.aload_n 0, 1) := eL_law_1264.2.2.2.2.2.2.1
theorem dL_law_1275 : decode cL_law 1275 = .ok (.iload_n 3, 1) := eL_law_1264.2.2.2.2.2.2.2.1
theorem eL_law_1276 : decode cL_law 1276 = .ok (.iconst 1, 1) ∧ decode cL_law 1277 = .ok (.iadd, 1) ∧ decode cL_law 1278 = .ok (.iaload, 1) ∧ decode cL_law 1279 = .ok (.aload_n 0, 1) ∧ decode cL_law 1280 = .ok (.iload_n 3, 1) ∧ decode cL_law 1281 = .ok (.iconst 2, 1) ∧ decode cL_law 1282 = .ok (.iadd, 1) ∧ decode cL_law 1283 = .ok (.iaload, 1) ∧ True := dkl_ok (c := cL_law) [(.iconst 1, 1), (.iadd, 1), (.iaload, 1), (.aload_n 0, 1), (.iload_n 3, 1), (.iconst 2, 1), (.iadd, 1), (.iaload, 1)] 1276 (by decide +kernel)
theorem dL_law_1276 : decode cL_law 1276 = .ok (.iconst 1, 1) := eL_law_1276.1
theorem dL_law_1277 : decode cL_law 1277 = .ok (.iadd, 1) := eL_law_1276.2.1
theorem dL_law_1278 : decode cL_law 1278 = .ok (.iaload, 1) := eL_law_1276.2.2.1
theorem dL_law_1279 : decode cL_law 1279 = .ok (.aload_n 0, 1) := eL_law_1276.2.2.2.1
theorem dL_law_1280 : decode cL_law 1280 = .ok (.iload_n 3, 1) := eL_law_1276.2.2.2.2.1
theorem dL_law_1281 : decode cL_law 1281 = .ok (.iconst 2, 1) := eL_law_1276.2.2.2.2.2.1
theorem dL_law_1282 : decode cL_law 1282 = .ok (.iadd, 1) := eL_law_1276.2.2.2.2.2.2.1
theorem dL_law_1283 : decode cL_law 1283 = .ok (.iaload, 1) := eL_law_1276.2.2.2.2.2.2.2.1
theorem eL_law_1284 : decode cL_law 1284 = .ok (.invokevirtual 159, 3) ∧ decode cL_law 1287 = .ok (.pop, 1) ∧ decode cL_law 1288 = .ok (.aload_n 2, 1) ∧ decode cL_law 1289 = .ok (.aload_n 0, 1) ∧ decode cL_law 1290 = .ok (.iload_n 3, 1) ∧ decode cL_law 1291 = .ok (.iconst 1, 1) ∧ decode cL_law 1292 = .ok (.iadd, 1) ∧ decode cL_law 1293 = .ok (.iaload, 1) ∧ True := dkl_ok (c := cL_law) [(.invokevirtual 159, 3), (.pop, 1), (.aload_n 2, 1), (.aload_n 0, 1), (.iload_n 3, 1), (.iconst 1, 1), (.iadd, 1), (.iaload, 1)] 1284 (by decide +kernel)
theorem dL_law_1284 : decode cL_law 1284 = .ok (.invokevirtual 159, 3) := eL_law_1284.1
theorem dL_law_1287 : decode cL_law 1287 = .ok (.pop, 1) := eL_law_1284.2.1
theorem dL_law_1288 : decode cL_law 1288 = .ok (.aload_n 2, 1) := eL_law_1284.2.2.1
theorem dL_law_1289 : decode cL_law 1289 = .ok (.aload_n 0, 1) := eL_law_1284.2.2.2.1
theorem dL_law_1290 : decode cL_law 1290 = .ok (.iload_n 3, 1) := eL_law_1284.2.2.2.2.1
theorem dL_law_1291 : decode cL_law 1291 = .ok (.iconst 1, 1) := eL_law_1284.2.2.2.2.2.1
theorem dL_law_1292 : decode cL_law 1292 = .ok (.iadd, 1) := eL_law_1284.2.2.2.2.2.2.1
theorem dL_law_1293 : decode cL_law 1293 = .ok (.iaload, 1) := eL_law_1284.2.2.2.2.2.2.2.1
theorem eL_law_1294 : decode cL_law 1294 = .ok (.aload_n 0, 1) ∧ decode cL_law 1295 = .ok (.iload_n 3, 1) ∧ decode cL_law 1296 = .ok (.iconst 2, 1) ∧ decode cL_law 1297 = .ok (.iadd, 1) ∧ decode cL_law 1298 = .ok (.iaload, 1) ∧ decode cL_law 1299 = .ok (.invokevirtual 162, 3) ∧ decode cL_law 1302 = .ok (.pop, 1) ∧ decode cL_law 1303 = .ok (.goto 493, 3) ∧ True := dkl_ok (c := cL_law) [(.aload_n 0, 1), (.iload_n 3, 1), (.iconst 2, 1), (.iadd, 1), (.iaload, 1), (.invokevirtual 162, 3), (.pop, 1), (.goto 493, 3)] 1294 (by decide +kernel)
theorem dL_law_1294 : decode cL_law 1294 = .ok (.aload_n 0, 1) := eL_law_1294.1
theorem dL_law_1295 : decode cL_law 1295 = .ok (.iload_n 3, 1) := eL_law_1294.2.1
theorem dL_law_1296 : decode cL_law 1296 = .ok (.iconst 2, 1) := eL_law_1294.2.2.1
theorem dL_law_1297 : decode cL_law 1297 = .ok (.iadd, 1) := eL_law_1294.2.2.2.1
theorem dL_law_1298 : decode cL_law 1298 = .ok (.iaload, 1) := eL_law_1294.2.2.2.2.1
theorem dL_law_1299 : decode cL_law 1299 = .ok (.invokevirtual 162, 3) := eL_law_1294.2.2.2.2.2.1
theorem dL_law_1302 : decode cL_law 1302 = .ok (.pop, 1) := eL_law_1294.2.2.2.2.2.2.1
theorem dL_law_1303 : decode cL_law 1303 = .ok (.goto 493, 3) := eL_law_1294.2.2.2.2.2.2.2.1
theorem eL_law_1306 : decode cL_law 1306 = .ok (.aload_n 1, 1) ∧ decode cL_law 1307 = .ok (.aload_n 0, 1) ∧ decode cL_law 1308 = .ok (.iload_n 3, 1) ∧ decode cL_law 1309 = .ok (.iconst 1, 1) ∧ decode cL_law 1310 = .ok (.iadd, 1) ∧ decode cL_law 1311 = .ok (.iaload, 1) ∧ decode cL_law 1312 = .ok (.aload_n 0, 1) ∧ decode cL_law 1313 = .ok (.iload_n 3, 1) ∧ True := dkl_ok (c := cL_law) [(.aload_n 1, 1), (.aload_n 0, 1), (.iload_n 3, 1), (.iconst 1, 1), (.iadd, 1), (.iaload, 1), (.aload_n 0, 1), (.iload_n 3, 1)] 1306 (by decide +kernel)
theorem dL_law_1306 : decode cL_law 1306 = .ok (.aload_n 1, 1) := eL_law_1306.1
theorem dL_law_1307 : decode cL_law 1307 = .ok (.aload_n 0, 1) := eL_law_1306.2.1
theorem dL_law_1308 : decode cL_law 1308 = .ok (.iload_n 3, 1) := eL_law_1306.2.2.1
theorem dL_law_1309 : decode cL_law 1309 = .ok (.iconst 1, 1) := eL_law_1306.2.2.2.1
theorem dL_law_1310 : decode cL_law 1310 = .ok (.iadd, 1) := eL_law_1306.2.2.2.2.1
theorem dL_law_1311 : decode cL_law 1311 = .ok (.iaload, 1) := eL_law_1306.2.2.2.2.2.1
theorem dL_law_1312 : decode cL_law 1312 = .ok (.aload_n 0, 1) := eL_law_1306.2.2.2.2.2.2.1
theorem dL_law_1313 : decode cL_law 1313 = .ok (.iload_n 3, 1) := eL_law_1306.2.2.2.2.2.2.2.1
theorem eL_law_1314 : decode cL_law 1314 = .ok (.iconst 2, 1) ∧ decode cL_law 1315 = .ok (.iadd, 1) ∧ decode cL_law 1316 = .ok (.iaload, 1) ∧ decode cL_law 1317 = .ok (.invokevirtual 163, 3) ∧ decode cL_law 1320 = .ok (.pop, 1) ∧ decode cL_law 1321 = .ok (.aload_n 2, 1) ∧ decode cL_law 1322 = .ok (.aload_n 0, 1) ∧ decode cL_law 1323 = .ok (.iload_n 3, 1) ∧ True := dkl_ok (c := cL_law) [(.iconst 2, 1), (.iadd, 1), (.iaload, 1), (.invokevirtual 163, 3), (.pop, 1), (.aload_n 2, 1), (.aload_n 0, 1), (.iload_n 3, 1)] 1314 (by decide +kernel)
theorem dL_law_1314 : decode cL_law 1314 = .ok (.iconst 2, 1) := eL_law_1314.1
theorem dL_law_1315 : decode cL_law 1315 = .ok (.iadd, 1) := eL_law_1314.2.1
theorem dL_law_1316 : decode cL_law 1316 = .ok (.iaload, 1) := eL_law_1314.2.2.1
theorem dL_law_1317 : decode cL_law 1317 = .ok (.invokevirtual 163, 3) := eL_law_1314.2.2.2.1
theorem dL_law_1320 : decode cL_law 1320 = .ok (.pop, 1) := eL_law_1314.2.2.2.2.1
theorem dL_law_1321 : decode cL_law 1321 = .ok (.aload_n 2, 1) := eL_law_1314.2.2.2.2.2.1
theorem dL_law_1322 : decode cL_law 1322 = .ok (.aload_n 0, 1) := eL_law_1314.2.2.2.2.2.2.1
theorem dL_law_1323 : decode cL_law 1323 = .ok (.iload_n 3, 1) := eL_law_1314.2.2.2.2.2.2.2.1
theorem eL_law_1324 : decode cL_law 1324 = .ok (.iconst 1, 1) ∧ decode cL_law 1325 = .ok (.iadd, 1) ∧ decode cL_law 1326 = .ok (.iaload, 1) ∧ decode cL_law 1327 = .ok (.aload_n 0, 1) ∧ decode cL_law 1328 = .ok (.iload_n 3, 1) ∧ decode cL_law 1329 = .ok (.iconst 2, 1) ∧ decode cL_law 1330 = .ok (.iadd, 1) ∧ decode cL_law 1331 = .ok (.iaload, 1) ∧ True := dkl_ok (c := cL_law) [(.iconst 1, 1), (.iadd, 1), (.iaload, 1), (.aload_n 0, 1), (.iload_n 3, 1), (.iconst 2, 1), (.iadd, 1), (.iaload, 1)] 1324 (by decide +kernel)
theorem dL_law_1324 : decode cL_law 1324 = .ok (.iconst 1, 1) := eL_law_1324.1
theorem dL_law_1325 : decode cL_law 1325 = .ok (.iadd, 1) := eL_law_1324.2.1
theorem dL_law_1326 : decode cL_law 1326 = .ok (.iaload, 1) := eL_law_1324.2.2.1
theorem dL_law_1327 : decode cL_law 1327 = .ok (.aload_n 0, 1) := eL_law_1324.2.2.2.1
theorem dL_law_1328 : decode cL_law 1328 = .ok (.iload_n 3, 1) := eL_law_1324.2.2.2.2.1
theorem dL_law_1329 : decode cL_law 1329 = .ok (.iconst 2, 1) := eL_law_1324.2.2.2.2.2.1
theorem dL_law_1330 : decode cL_law 1330 = .ok (.iadd, 1) := eL_law_1324.2.2.2.2.2.2.1
theorem dL_law_1331 : decode cL_law 1331 = .ok (.iaload, 1) := eL_law_1324.2.2.2.2.2.2.2.1
theorem eL_law_1332 : decode cL_law 1332 = .ok (.invokevirtual 166, 3) ∧ decode cL_law 1335 = .ok (.pop, 1) ∧ decode cL_law 1336 = .ok (.goto 460, 3) ∧ decode cL_law 1339 = .ok (.aload_n 1, 1) ∧ decode cL_law 1340 = .ok (.aload_n 0, 1) ∧ decode cL_law 1341 = .ok (.iload_n 3, 1) ∧ decode cL_law 1342 = .ok (.iconst 1, 1) ∧ decode cL_law 1343 = .ok (.iadd, 1) ∧ True := dkl_ok (c := cL_law) [(.invokevirtual 166, 3), (.pop, 1), (.goto 460, 3), (.aload_n 1, 1), (.aload_n 0, 1), (.iload_n 3, 1), (.iconst 1, 1), (.iadd, 1)] 1332 (by decide +kernel)
theorem dL_law_1332 : decode cL_law 1332 = .ok (.invokevirtual 166, 3) := eL_law_1332.1
theorem dL_law_1335 : decode cL_law 1335 = .ok (.pop, 1) := eL_law_1332.2.1
theorem dL_law_1336 : decode cL_law 1336 = .ok (.goto 460, 3) := eL_law_1332.2.2.1
theorem dL_law_1339 : decode cL_law 1339 = .ok (.aload_n 1, 1) := eL_law_1332.2.2.2.1
theorem dL_law_1340 : decode cL_law 1340 = .ok (.aload_n 0, 1) := eL_law_1332.2.2.2.2.1
theorem dL_law_1341 : decode cL_law 1341 = .ok (.iload_n 3, 1) := eL_law_1332.2.2.2.2.2.1
theorem dL_law_1342 : decode cL_law 1342 = .ok (.iconst 1, 1) := eL_law_1332.2.2.2.2.2.2.1
theorem dL_law_1343 : decode cL_law 1343 = .ok (.iadd, 1) := eL_law_1332.2.2.2.2.2.2.2.1
theorem eL_law_1344 : decode cL_law 1344 = .ok (.iaload, 1) ∧ decode cL_law 1345 = .ok (.invokevirtual 167, 3) ∧ decode cL_law 1348 = .ok (.pop, 1) ∧ decode cL_law 1349 = .ok (.aload_n 2, 1) ∧ decode cL_law 1350 = .ok (.aload_n 0, 1) ∧ decode cL_law 1351 = .ok (.iload_n 3, 1) ∧ decode cL_law 1352 = .ok (.iconst 1, 1) ∧ decode cL_law 1353 = .ok (.iadd, 1) ∧ True := dkl_ok (c := cL_law) [(.iaload, 1), (.invokevirtual 167, 3), (.pop, 1), (.aload_n 2, 1), (.aload_n 0, 1), (.iload_n 3, 1), (.iconst 1, 1), (.iadd, 1)] 1344 (by decide +kernel)
theorem dL_law_1344 : decode cL_law 1344 = .ok (.iaload, 1) := eL_law_1344.1
theorem dL_law_1345 : decode cL_law 1345 = .ok (.invokevirtual 167, 3) := eL_law_1344.2.1
theorem dL_law_1348 : decode cL_law 1348 = .ok (.pop, 1) := eL_law_1344.2.2.1
theorem dL_law_1349 : decode cL_law 1349 = .ok (.aload_n 2, 1) := eL_law_1344.2.2.2.1
theorem dL_law_1350 : decode cL_law 1350 = .ok (.aload_n 0, 1) := eL_law_1344.2.2.2.2.1
theorem dL_law_1351 : decode cL_law 1351 = .ok (.iload_n 3, 1) := eL_law_1344.2.2.2.2.2.1
theorem dL_law_1352 : decode cL_law 1352 = .ok (.iconst 1, 1) := eL_law_1344.2.2.2.2.2.2.1
theorem dL_law_1353 : decode cL_law 1353 = .ok (.iadd, 1) := eL_law_1344.2.2.2.2.2.2.2.1
theorem eL_law_1354 : decode cL_law 1354 = .ok (.iaload, 1) ∧ decode cL_law 1355 = .ok (.invokevirtual 170, 3) ∧ decode cL_law 1358 = .ok (.pop, 1) ∧ decode cL_law 1359 = .ok (.goto 437, 3) ∧ decode cL_law 1362 = .ok (.aload_n 1, 1) ∧ decode cL_law 1363 = .ok (.aload_n 0, 1) ∧ decode cL_law 1364 = .ok (.iload_n 3, 1) ∧ decode cL_law 1365 = .ok (.iconst 1, 1) ∧ True := dkl_ok (c := cL_law) [(.iaload, 1), (.invokevirtual 170, 3), (.pop, 1), (.goto 437, 3), (.aload_n 1, 1), (.aload_n 0, 1), (.iload_n 3, 1), (.iconst 1, 1)] 1354 (by decide +kernel)
theorem dL_law_1354 : decode cL_law 1354 = .ok (.iaload, 1) := eL_law_1354.1
theorem dL_law_1355 : decode cL_law 1355 = .ok (.invokevirtual 170, 3) := eL_law_1354.2.1
theorem dL_law_1358 : decode cL_law 1358 = .ok (.pop, 1) := eL_law_1354.2.2.1
theorem dL_law_1359 : decode cL_law 1359 = .ok (.goto 437, 3) := eL_law_1354.2.2.2.1
theorem dL_law_1362 : decode cL_law 1362 = .ok (.aload_n 1, 1) := eL_law_1354.2.2.2.2.1
theorem dL_law_1363 : decode cL_law 1363 = .ok (.aload_n 0, 1) := eL_law_1354.2.2.2.2.2.1
theorem dL_law_1364 : decode cL_law 1364 = .ok (.iload_n 3, 1) := eL_law_1354.2.2.2.2.2.2.1
theorem dL_law_1365 : decode cL_law 1365 = .ok (.iconst 1, 1) := eL_law_1354.2.2.2.2.2.2.2.1
theorem eL_law_1366 : decode cL_law 1366 = .ok (.iadd, 1) ∧ decode cL_law 1367 = .ok (.iaload, 1) ∧ decode cL_law 1368 = .ok (.invokevirtual 171, 3) ∧ decode cL_law 1371 = .ok (.pop, 1) ∧ decode cL_law 1372 = .ok (.aload_n 2, 1) ∧ decode cL_law 1373 = .ok (.aload_n 0, 1) ∧ decode cL_law 1374 = .ok (.iload_n 3, 1) ∧ decode cL_law 1375 = .ok (.iconst 1, 1) ∧ True := dkl_ok (c := cL_law) [(.iadd, 1), (.iaload, 1), (.invokevirtual 171, 3), (.pop, 1), (.aload_n 2, 1), (.aload_n 0, 1), (.iload_n 3, 1), (.iconst 1, 1)] 1366 (by decide +kernel)
theorem dL_law_1366 : decode cL_law 1366 = .ok (.iadd, 1) := eL_law_1366.1
theorem dL_law_1367 : decode cL_law 1367 = .ok (.iaload, 1) := eL_law_1366.2.1
theorem dL_law_1368 : decode cL_law 1368 = .ok (.invokevirtual 171, 3) := eL_law_1366.2.2.1
theorem dL_law_1371 : decode cL_law 1371 = .ok (.pop, 1) := eL_law_1366.2.2.2.1
theorem dL_law_1372 : decode cL_law 1372 = .ok (.aload_n 2, 1) := eL_law_1366.2.2.2.2.1
theorem dL_law_1373 : decode cL_law 1373 = .ok (.aload_n 0, 1) := eL_law_1366.2.2.2.2.2.1
theorem dL_law_1374 : decode cL_law 1374 = .ok (.iload_n 3, 1) := eL_law_1366.2.2.2.2.2.2.1
theorem dL_law_1375 : decode cL_law 1375 = .ok (.iconst 1, 1) := eL_law_1366.2.2.2.2.2.2.2.1
theorem eL_law_1376 : decode cL_law 1376 = .ok (.iadd, 1) ∧ decode cL_law 1377 = .ok (.iaload, 1) ∧ decode cL_law 1378 = .ok (.invokevirtual 174, 3) ∧ decode cL_law 1381 = .ok (.pop, 1) ∧ decode cL_law 1382 = .ok (.goto 414, 3) ∧ decode cL_law 1385 = .ok (.aload_n 1, 1) ∧ decode cL_law 1386 = .ok (.aload_n 0, 1) ∧ decode cL_law 1387 = .ok (.iload_n 3, 1) ∧ True := dkl_ok (c := cL_law) [(.iadd, 1), (.iaload, 1), (.invokevirtual 174, 3), (.pop, 1), (.goto 414, 3), (.aload_n 1, 1), (.aload_n 0, 1), (.iload_n 3, 1)] 1376 (by decide +kernel)
theorem dL_law_1376 : decode cL_law 1376 = .ok (.iadd, 1) := eL_law_1376.1
theorem dL_law_1377 : decode cL_law 1377 = .ok (.iaload, 1) := eL_law_1376.2.1
theorem dL_law_1378 : decode cL_law 1378 = .ok (.invokevirtual 174, 3) := eL_law_1376.2.2.1
theorem dL_law_1381 : decode cL_law 1381 = .ok (.pop, 1) := eL_law_1376.2.2.2.1
theorem dL_law_1382 : decode cL_law 1382 = .ok (.goto 414, 3) := eL_law_1376.2.2.2.2.1
theorem dL_law_1385 : decode cL_law 1385 = .ok (.aload_n 1, 1) := eL_law_1376.2.2.2.2.2.1
theorem dL_law_1386 : decode cL_law 1386 = .ok (.aload_n 0, 1) := eL_law_1376.2.2.2.2.2.2.1
theorem dL_law_1387 : decode cL_law 1387 = .ok (.iload_n 3, 1) := eL_law_1376.2.2.2.2.2.2.2.1
theorem eL_law_1388 : decode cL_law 1388 = .ok (.iconst 1, 1) ∧ decode cL_law 1389 = .ok (.iadd, 1) ∧ decode cL_law 1390 = .ok (.iaload, 1) ∧ decode cL_law 1391 = .ok (.invokevirtual 175, 3) ∧ decode cL_law 1394 = .ok (.pop, 1) ∧ decode cL_law 1395 = .ok (.aload_n 2, 1) ∧ decode cL_law 1396 = .ok (.aload_n 0, 1) ∧ decode cL_law 1397 = .ok (.iload_n 3, 1) ∧ True := dkl_ok (c := cL_law) [(.iconst 1, 1), (.iadd, 1), (.iaload, 1), (.invokevirtual 175, 3), (.pop, 1), (.aload_n 2, 1), (.aload_n 0, 1), (.iload_n 3, 1)] 1388 (by decide +kernel)
theorem dL_law_1388 : decode cL_law 1388 = .ok (.iconst 1, 1) := eL_law_1388.1
theorem dL_law_1389 : decode cL_law 1389 = .ok (.iadd, 1) := eL_law_1388.2.1
theorem dL_law_1390 : decode cL_law 1390 = .ok (.iaload, 1) := eL_law_1388.2.2.1
theorem dL_law_1391 : decode cL_law 1391 = .ok (.invokevirtual 175, 3) := eL_law_1388.2.2.2.1
theorem dL_law_1394 : decode cL_law 1394 = .ok (.pop, 1) := eL_law_1388.2.2.2.2.1
theorem dL_law_1395 : decode cL_law 1395 = .ok (.aload_n 2, 1) := eL_law_1388.2.2.2.2.2.1
theorem dL_law_1396 : decode cL_law 1396 = .ok (.aload_n 0, 1) := eL_law_1388.2.2.2.2.2.2.1
theorem dL_law_1397 : decode cL_law 1397 = .ok (.iload_n 3, 1) := eL_law_1388.2.2.2.2.2.2.2.1
theorem eL_law_1398 : decode cL_law 1398 = .ok (.iconst 1, 1) ∧ decode cL_law 1399 = .ok (.iadd, 1) ∧ decode cL_law 1400 = .ok (.iaload, 1) ∧ decode cL_law 1401 = .ok (.invokevirtual 178, 3) ∧ decode cL_law 1404 = .ok (.pop, 1) ∧ decode cL_law 1405 = .ok (.goto 391, 3) ∧ decode cL_law 1408 = .ok (.aload_n 1, 1) ∧ decode cL_law 1409 = .ok (.invokevirtual 179, 3) ∧ True := dkl_ok (c := cL_law) [(.iconst 1, 1), (.iadd, 1), (.iaload, 1), (.invokevirtual 178, 3), (.pop, 1), (.goto 391, 3), (.aload_n 1, 1), (.invokevirtual 179, 3)] 1398 (by decide +kernel)
theorem dL_law_1398 : decode cL_law 1398 = .ok (.iconst 1, 1) := eL_law_1398.1
theorem dL_law_1399 : decode cL_law 1399 = .ok (.iadd, 1) := eL_law_1398.2.1
theorem dL_law_1400 : decode cL_law 1400 = .ok (.iaload, 1) := eL_law_1398.2.2.1
theorem dL_law_1401 : decode cL_law 1401 = .ok (.invokevirtual 178, 3) := eL_law_1398.2.2.2.1
theorem dL_law_1404 : decode cL_law 1404 = .ok (.pop, 1) := eL_law_1398.2.2.2.2.1
theorem dL_law_1405 : decode cL_law 1405 = .ok (.goto 391, 3) := eL_law_1398.2.2.2.2.2.1
theorem dL_law_1408 : decode cL_law 1408 = .ok (.aload_n 1, 1) := eL_law_1398.2.2.2.2.2.2.1
theorem dL_law_1409 : decode cL_law 1409 = .ok (.invokevirtual 179, 3) := eL_law_1398.2.2.2.2.2.2.2.1
theorem eL_law_1412 : decode cL_law 1412 = .ok (.pop, 1) ∧ decode cL_law 1413 = .ok (.aload_n 2, 1) ∧ decode cL_law 1414 = .ok (.invokevirtual 182, 3) ∧ decode cL_law 1417 = .ok (.pop, 1) ∧ decode cL_law 1418 = .ok (.goto 378, 3) ∧ decode cL_law 1421 = .ok (.aload_n 1, 1) ∧ decode cL_law 1422 = .ok (.aload_n 0, 1) ∧ decode cL_law 1423 = .ok (.iload_n 3, 1) ∧ True := dkl_ok (c := cL_law) [(.pop, 1), (.aload_n 2, 1), (.invokevirtual 182, 3), (.pop, 1), (.goto 378, 3), (.aload_n 1, 1), (.aload_n 0, 1), (.iload_n 3, 1)] 1412 (by decide +kernel)
theorem dL_law_1412 : decode cL_law 1412 = .ok (.pop, 1) := eL_law_1412.1
theorem dL_law_1413 : decode cL_law 1413 = .ok (.aload_n 2, 1) := eL_law_1412.2.1
theorem dL_law_1414 : decode cL_law 1414 = .ok (.invokevirtual 182, 3) := eL_law_1412.2.2.1
theorem dL_law_1417 : decode cL_law 1417 = .ok (.pop, 1) := eL_law_1412.2.2.2.1
theorem dL_law_1418 : decode cL_law 1418 = .ok (.goto 378, 3) := eL_law_1412.2.2.2.2.1
theorem dL_law_1421 : decode cL_law 1421 = .ok (.aload_n 1, 1) := eL_law_1412.2.2.2.2.2.1
theorem dL_law_1422 : decode cL_law 1422 = .ok (.aload_n 0, 1) := eL_law_1412.2.2.2.2.2.2.1
theorem dL_law_1423 : decode cL_law 1423 = .ok (.iload_n 3, 1) := eL_law_1412.2.2.2.2.2.2.2.1
theorem eL_law_1424 : decode cL_law 1424 = .ok (.iconst 1, 1) ∧ decode cL_law 1425 = .ok (.iadd, 1) ∧ decode cL_law 1426 = .ok (.iaload, 1) ∧ decode cL_law 1427 = .ok (.aload_n 0, 1) ∧ decode cL_law 1428 = .ok (.iload_n 3, 1) ∧ decode cL_law 1429 = .ok (.iconst 2, 1) ∧ decode cL_law 1430 = .ok (.iadd, 1) ∧ decode cL_law 1431 = .ok (.iaload, 1) ∧ True := dkl_ok (c := cL_law) [(.iconst 1, 1), (.iadd, 1), (.iaload, 1), (.aload_n 0, 1), (.iload_n 3, 1), (.iconst 2, 1), (.iadd, 1), (.iaload, 1)] 1424 (by decide +kernel)
theorem dL_law_1424 : decode cL_law 1424 = .ok (.iconst 1, 1) := eL_law_1424.1
theorem dL_law_1425 : decode cL_law 1425 = .ok (.iadd, 1) := eL_law_1424.2.1
theorem dL_law_1426 : decode cL_law 1426 = .ok (.iaload, 1) := eL_law_1424.2.2.1
theorem dL_law_1427 : decode cL_law 1427 = .ok (.aload_n 0, 1) := eL_law_1424.2.2.2.1
theorem dL_law_1428 : decode cL_law 1428 = .ok (.iload_n 3, 1) := eL_law_1424.2.2.2.2.1
theorem dL_law_1429 : decode cL_law 1429 = .ok (.iconst 2, 1) := eL_law_1424.2.2.2.2.2.1
theorem dL_law_1430 : decode cL_law 1430 = .ok (.iadd, 1) := eL_law_1424.2.2.2.2.2.2.1
theorem dL_law_1431 : decode cL_law 1431 = .ok (.iaload, 1) := eL_law_1424.2.2.2.2.2.2.2.1
theorem eL_law_1432 : decode cL_law 1432 = .ok (.invokevirtual 183, 3) ∧ decode cL_law 1435 = .ok (.pop, 1) ∧ decode cL_law 1436 = .ok (.aload_n 2, 1) ∧ decode cL_law 1437 = .ok (.aload_n 0, 1) ∧ decode cL_law 1438 = .ok (.iload_n 3, 1) ∧ decode cL_law 1439 = .ok (.iconst 1, 1) ∧ decode cL_law 1440 = .ok (.iadd, 1) ∧ decode cL_law 1441 = .ok (.iaload, 1) ∧ True := dkl_ok (c := cL_law) [(.invokevirtual 183, 3), (.pop, 1), (.aload_n 2, 1), (.aload_n 0, 1), (.iload_n 3, 1), (.iconst 1, 1), (.iadd, 1), (.iaload, 1)] 1432 (by decide +kernel)
theorem dL_law_1432 : decode cL_law 1432 = .ok (.invokevirtual 183, 3) := eL_law_1432.1
theorem dL_law_1435 : decode cL_law 1435 = .ok (.pop, 1) := eL_law_1432.2.1
theorem dL_law_1436 : decode cL_law 1436 = .ok (.aload_n 2, 1) := eL_law_1432.2.2.1
theorem dL_law_1437 : decode cL_law 1437 = .ok (.aload_n 0, 1) := eL_law_1432.2.2.2.1
theorem dL_law_1438 : decode cL_law 1438 = .ok (.iload_n 3, 1) := eL_law_1432.2.2.2.2.1
theorem dL_law_1439 : decode cL_law 1439 = .ok (.iconst 1, 1) := eL_law_1432.2.2.2.2.2.1
theorem dL_law_1440 : decode cL_law 1440 = .ok (.iadd, 1) := eL_law_1432.2.2.2.2.2.2.1
theorem dL_law_1441 : decode cL_law 1441 = .ok (.iaload, 1) := eL_law_1432.2.2.2.2.2.2.2.1
theorem eL_law_1442 : decode cL_law 1442 = .ok (.aload_n 0, 1) ∧ decode cL_law 1443 = .ok (.iload_n 3, 1) ∧ decode cL_law 1444 = .ok (.iconst 2, 1) ∧ decode cL_law 1445 = .ok (.iadd, 1) ∧ decode cL_law 1446 = .ok (.iaload, 1) ∧ decode cL_law 1447 = .ok (.invokevirtual 186, 3) ∧ decode cL_law 1450 = .ok (.pop, 1) ∧ decode cL_law 1451 = .ok (.goto 345, 3) ∧ True := dkl_ok (c := cL_law) [(.aload_n 0, 1), (.iload_n 3, 1), (.iconst 2, 1), (.iadd, 1), (.iaload, 1), (.invokevirtual 186, 3), (.pop, 1), (.goto 345, 3)] 1442 (by decide +kernel)
theorem dL_law_1442 : decode cL_law 1442 = .ok (.aload_n 0, 1) := eL_law_1442.1
theorem dL_law_1443 : decode cL_law 1443 = .ok (.iload_n 3, 1) := eL_law_1442.2.1
theorem dL_law_1444 : decode cL_law 1444 = .ok (.iconst 2, 1) := eL_law_1442.2.2.1
theorem dL_law_1445 : decode cL_law 1445 = .ok (.iadd, 1) := eL_law_1442.2.2.2.1
theorem dL_law_1446 : decode cL_law 1446 = .ok (.iaload, 1) := eL_law_1442.2.2.2.2.1
theorem dL_law_1447 : decode cL_law 1447 = .ok (.invokevirtual 186, 3) := eL_law_1442.2.2.2.2.2.1
theorem dL_law_1450 : decode cL_law 1450 = .ok (.pop, 1) := eL_law_1442.2.2.2.2.2.2.1
theorem dL_law_1451 : decode cL_law 1451 = .ok (.goto 345, 3) := eL_law_1442.2.2.2.2.2.2.2.1
theorem eL_law_1454 : decode cL_law 1454 = .ok (.aload_n 1, 1) ∧ decode cL_law 1455 = .ok (.aload_n 0, 1) ∧ decode cL_law 1456 = .ok (.iload_n 3, 1) ∧ decode cL_law 1457 = .ok (.iconst 1, 1) ∧ decode cL_law 1458 = .ok (.iadd, 1) ∧ decode cL_law 1459 = .ok (.iaload, 1) ∧ decode cL_law 1460 = .ok (.invokevirtual 187, 3) ∧ decode cL_law 1463 = .ok (.pop, 1) ∧ True := dkl_ok (c := cL_law) [(.aload_n 1, 1), (.aload_n 0, 1), (.iload_n 3, 1), (.iconst 1, 1), (.iadd, 1), (.iaload, 1), (.invokevirtual 187, 3), (.pop, 1)] 1454 (by decide +kernel)
theorem dL_law_1454 : decode cL_law 1454 = .ok (.aload_n 1, 1) := eL_law_1454.1
theorem dL_law_1455 : decode cL_law 1455 = .ok (.aload_n 0, 1) := eL_law_1454.2.1
theorem dL_law_1456 : decode cL_law 1456 = .ok (.iload_n 3, 1) := eL_law_1454.2.2.1
theorem dL_law_1457 : decode cL_law 1457 = .ok (.iconst 1, 1) := eL_law_1454.2.2.2.1
theorem dL_law_1458 : decode cL_law 1458 = .ok (.iadd, 1) := eL_law_1454.2.2.2.2.1
theorem dL_law_1459 : decode cL_law 1459 = .ok (.iaload, 1) := eL_law_1454.2.2.2.2.2.1
theorem dL_law_1460 : decode cL_law 1460 = .ok (.invokevirtual 187, 3) := eL_law_1454.2.2.2.2.2.2.1
theorem dL_law_1463 : decode cL_law 1463 = .ok (.pop, 1) := eL_law_1454.2.2.2.2.2.2.2.1
theorem eL_law_1464 : decode cL_law 1464 = .ok (.aload_n 2, 1) ∧ decode cL_law 1465 = .ok (.aload_n 0, 1) ∧ decode cL_law 1466 = .ok (.iload_n 3, 1) ∧ decode cL_law 1467 = .ok (.iconst 1, 1) ∧ decode cL_law 1468 = .ok (.iadd, 1) ∧ decode cL_law 1469 = .ok (.iaload, 1) ∧ decode cL_law 1470 = .ok (.invokevirtual 190, 3) ∧ decode cL_law 1473 = .ok (.pop, 1) ∧ True := dkl_ok (c := cL_law) [(.aload_n 2, 1), (.aload_n 0, 1), (.iload_n 3, 1), (.iconst 1, 1), (.iadd, 1), (.iaload, 1), (.invokevirtual 190, 3), (.pop, 1)] 1464 (by decide +kernel)
theorem dL_law_1464 : decode cL_law 1464 = .ok (.aload_n 2, 1) := eL_law_1464.1
theorem dL_law_1465 : decode cL_law 1465 = .ok (.aload_n 0, 1) := eL_law_1464.2.1
theorem dL_law_1466 : decode cL_law 1466 = .ok (.iload_n 3, 1) := eL_law_1464.2.2.1
theorem dL_law_1467 : decode cL_law 1467 = .ok (.iconst 1, 1) := eL_law_1464.2.2.2.1
theorem dL_law_1468 : decode cL_law 1468 = .ok (.iadd, 1) := eL_law_1464.2.2.2.2.1
theorem dL_law_1469 : decode cL_law 1469 = .ok (.iaload, 1) := eL_law_1464.2.2.2.2.2.1
theorem dL_law_1470 : decode cL_law 1470 = .ok (.invokevirtual 190, 3) := eL_law_1464.2.2.2.2.2.2.1
theorem dL_law_1473 : decode cL_law 1473 = .ok (.pop, 1) := eL_law_1464.2.2.2.2.2.2.2.1
theorem eL_law_1474 : decode cL_law 1474 = .ok (.goto 322, 3) ∧ decode cL_law 1477 = .ok (.aload_n 1, 1) ∧ decode cL_law 1478 = .ok (.aload_n 0, 1) ∧ decode cL_law 1479 = .ok (.iload_n 3, 1) ∧ decode cL_law 1480 = .ok (.iconst 1, 1) ∧ decode cL_law 1481 = .ok (.iadd, 1) ∧ decode cL_law 1482 = .ok (.iaload, 1) ∧ decode cL_law 1483 = .ok (.invokevirtual 191, 3) ∧ True := dkl_ok (c := cL_law) [(.goto 322, 3), (.aload_n 1, 1), (.aload_n 0, 1), (.iload_n 3, 1), (.iconst 1, 1), (.iadd, 1), (.iaload, 1), (.invokevirtual 191, 3)] 1474 (by decide +kernel)
theorem dL_law_1474 : decode cL_law 1474 = .ok (.goto 322, 3) := eL_law_1474.1
theorem dL_law_1477 : decode cL_law 1477 = .ok (.aload_n 1, 1) := eL_law_1474.2.1
theorem dL_law_1478 : decode cL_law 1478 = .ok (.aload_n 0, 1) := eL_law_1474.2.2.1
theorem dL_law_1479 : decode cL_law 1479 = .ok (.iload_n 3, 1) := eL_law_1474.2.2.2.1
theorem dL_law_1480 : decode cL_law 1480 = .ok (.iconst 1, 1) := eL_law_1474.2.2.2.2.1
theorem dL_law_1481 : decode cL_law 1481 = .ok (.iadd, 1) := eL_law_1474.2.2.2.2.2.1
theorem dL_law_1482 : decode cL_law 1482 = .ok (.iaload, 1) := eL_law_1474.2.2.2.2.2.2.1
theorem dL_law_1483 : decode cL_law 1483 = .ok (.invokevirtual 191, 3) := eL_law_1474.2.2.2.2.2.2.2.1
theorem eL_law_1486 : decode cL_law 1486 = .ok (.pop, 1) ∧ decode cL_law 1487 = .ok (.aload_n 2, 1) ∧ decode cL_law 1488 = .ok (.aload_n 0, 1) ∧ decode cL_law 1489 = .ok (.iload_n 3, 1) ∧ decode cL_law 1490 = .ok (.iconst 1, 1) ∧ decode cL_law 1491 = .ok (.iadd, 1) ∧ decode cL_law 1492 = .ok (.iaload, 1) ∧ decode cL_law 1493 = .ok (.invokevirtual 194, 3) ∧ True := dkl_ok (c := cL_law) [(.pop, 1), (.aload_n 2, 1), (.aload_n 0, 1), (.iload_n 3, 1), (.iconst 1, 1), (.iadd, 1), (.iaload, 1), (.invokevirtual 194, 3)] 1486 (by decide +kernel)
theorem dL_law_1486 : decode cL_law 1486 = .ok (.pop, 1) := eL_law_1486.1
theorem dL_law_1487 : decode cL_law 1487 = .ok (.aload_n 2, 1) := eL_law_1486.2.1
theorem dL_law_1488 : decode cL_law 1488 = .ok (.aload_n 0, 1) := eL_law_1486.2.2.1
theorem dL_law_1489 : decode cL_law 1489 = .ok (.iload_n 3, 1) := eL_law_1486.2.2.2.1
theorem dL_law_1490 : decode cL_law 1490 = .ok (.iconst 1, 1) := eL_law_1486.2.2.2.2.1
theorem dL_law_1491 : decode cL_law 1491 = .ok (.iadd, 1) := eL_law_1486.2.2.2.2.2.1
theorem dL_law_1492 : decode cL_law 1492 = .ok (.iaload, 1) := eL_law_1486.2.2.2.2.2.2.1
theorem dL_law_1493 : decode cL_law 1493 = .ok (.invokevirtual 194, 3) := eL_law_1486.2.2.2.2.2.2.2.1
theorem eL_law_1496 : decode cL_law 1496 = .ok (.pop, 1) ∧ decode cL_law 1497 = .ok (.goto 299, 3) ∧ decode cL_law 1500 = .ok (.aload_n 1, 1) ∧ decode cL_law 1501 = .ok (.aload_n 0, 1) ∧ decode cL_law 1502 = .ok (.iload_n 3, 1) ∧ decode cL_law 1503 = .ok (.iconst 1, 1) ∧ decode cL_law 1504 = .ok (.iadd, 1) ∧ decode cL_law 1505 = .ok (.iaload, 1) ∧ True := dkl_ok (c := cL_law) [(.pop, 1), (.goto 299, 3), (.aload_n 1, 1), (.aload_n 0, 1), (.iload_n 3, 1), (.iconst 1, 1), (.iadd, 1), (.iaload, 1)] 1496 (by decide +kernel)
theorem dL_law_1496 : decode cL_law 1496 = .ok (.pop, 1) := eL_law_1496.1
theorem dL_law_1497 : decode cL_law 1497 = .ok (.goto 299, 3) := eL_law_1496.2.1
theorem dL_law_1500 : decode cL_law 1500 = .ok (.aload_n 1, 1) := eL_law_1496.2.2.1
theorem dL_law_1501 : decode cL_law 1501 = .ok (.aload_n 0, 1) := eL_law_1496.2.2.2.1
theorem dL_law_1502 : decode cL_law 1502 = .ok (.iload_n 3, 1) := eL_law_1496.2.2.2.2.1
theorem dL_law_1503 : decode cL_law 1503 = .ok (.iconst 1, 1) := eL_law_1496.2.2.2.2.2.1
theorem dL_law_1504 : decode cL_law 1504 = .ok (.iadd, 1) := eL_law_1496.2.2.2.2.2.2.1
theorem dL_law_1505 : decode cL_law 1505 = .ok (.iaload, 1) := eL_law_1496.2.2.2.2.2.2.2.1
theorem eL_law_1506 : decode cL_law 1506 = .ok (.invokevirtual 195, 3) ∧ decode cL_law 1509 = .ok (.pop, 1) ∧ decode cL_law 1510 = .ok (.aload_n 2, 1) ∧ decode cL_law 1511 = .ok (.aload_n 0, 1) ∧ decode cL_law 1512 = .ok (.iload_n 3, 1) ∧ decode cL_law 1513 = .ok (.iconst 1, 1) ∧ decode cL_law 1514 = .ok (.iadd, 1) ∧ decode cL_law 1515 = .ok (.iaload, 1) ∧ True := dkl_ok (c := cL_law) [(.invokevirtual 195, 3), (.pop, 1), (.aload_n 2, 1), (.aload_n 0, 1), (.iload_n 3, 1), (.iconst 1, 1), (.iadd, 1), (.iaload, 1)] 1506 (by decide +kernel)
theorem dL_law_1506 : decode cL_law 1506 = .ok (.invokevirtual 195, 3) := eL_law_1506.1
theorem dL_law_1509 : decode cL_law 1509 = .ok (.pop, 1) := eL_law_1506.2.1
theorem dL_law_1510 : decode cL_law 1510 = .ok (.aload_n 2, 1) := eL_law_1506.2.2.1
theorem dL_law_1511 : decode cL_law 1511 = .ok (.aload_n 0, 1) := eL_law_1506.2.2.2.1
theorem dL_law_1512 : decode cL_law 1512 = .ok (.iload_n 3, 1) := eL_law_1506.2.2.2.2.1
theorem dL_law_1513 : decode cL_law 1513 = .ok (.iconst 1, 1) := eL_law_1506.2.2.2.2.2.1
theorem dL_law_1514 : decode cL_law 1514 = .ok (.iadd, 1) := eL_law_1506.2.2.2.2.2.2.1
theorem dL_law_1515 : decode cL_law 1515 = .ok (.iaload, 1) := eL_law_1506.2.2.2.2.2.2.2.1
theorem eL_law_1516 : decode cL_law 1516 = .ok (.invokevirtual 198, 3) ∧ decode cL_law 1519 = .ok (.pop, 1) ∧ decode cL_law 1520 = .ok (.goto 276, 3) ∧ decode cL_law 1523 = .ok (.aload_n 1, 1) ∧ decode cL_law 1524 = .ok (.aload_n 0, 1) ∧ decode cL_law 1525 = .ok (.iload_n 3, 1) ∧ decode cL_law 1526 = .ok (.iconst 1, 1) ∧ decode cL_law 1527 = .ok (.iadd, 1) ∧ True := dkl_ok (c := cL_law) [(.invokevirtual 198, 3), (.pop, 1), (.goto 276, 3), (.aload_n 1, 1), (.aload_n 0, 1), (.iload_n 3, 1), (.iconst 1, 1), (.iadd, 1)] 1516 (by decide +kernel)
theorem dL_law_1516 : decode cL_law 1516 = .ok (.invokevirtual 198, 3) := eL_law_1516.1
theorem dL_law_1519 : decode cL_law 1519 = .ok (.pop, 1) := eL_law_1516.2.1
theorem dL_law_1520 : decode cL_law 1520 = .ok (.goto 276, 3) := eL_law_1516.2.2.1
theorem dL_law_1523 : decode cL_law 1523 = .ok (.aload_n 1, 1) := eL_law_1516.2.2.2.1
theorem dL_law_1524 : decode cL_law 1524 = .ok (.aload_n 0, 1) := eL_law_1516.2.2.2.2.1
theorem dL_law_1525 : decode cL_law 1525 = .ok (.iload_n 3, 1) := eL_law_1516.2.2.2.2.2.1
theorem dL_law_1526 : decode cL_law 1526 = .ok (.iconst 1, 1) := eL_law_1516.2.2.2.2.2.2.1
theorem dL_law_1527 : decode cL_law 1527 = .ok (.iadd, 1) := eL_law_1516.2.2.2.2.2.2.2.1
theorem eL_law_1528 : decode cL_law 1528 = .ok (.iaload, 1) ∧ decode cL_law 1529 = .ok (.aload_n 0, 1) ∧ decode cL_law 1530 = .ok (.iload_n 3, 1) ∧ decode cL_law 1531 = .ok (.iconst 2, 1) ∧ decode cL_law 1532 = .ok (.iadd, 1) ∧ decode cL_law 1533 = .ok (.iaload, 1) ∧ decode cL_law 1534 = .ok (.aload_n 0, 1) ∧ decode cL_law 1535 = .ok (.iload_n 3, 1) ∧ True := dkl_ok (c := cL_law) [(.iaload, 1), (.aload_n 0, 1), (.iload_n 3, 1), (.iconst 2, 1), (.iadd, 1), (.iaload, 1), (.aload_n 0, 1), (.iload_n 3, 1)] 1528 (by decide +kernel)
theorem dL_law_1528 : decode cL_law 1528 = .ok (.iaload, 1) := eL_law_1528.1
theorem dL_law_1529 : decode cL_law 1529 = .ok (.aload_n 0, 1) := eL_law_1528.2.1
theorem dL_law_1530 : decode cL_law 1530 = .ok (.iload_n 3, 1) := eL_law_1528.2.2.1
theorem dL_law_1531 : decode cL_law 1531 = .ok (.iconst 2, 1) := eL_law_1528.2.2.2.1
theorem dL_law_1532 : decode cL_law 1532 = .ok (.iadd, 1) := eL_law_1528.2.2.2.2.1
theorem dL_law_1533 : decode cL_law 1533 = .ok (.iaload, 1) := eL_law_1528.2.2.2.2.2.1
theorem dL_law_1534 : decode cL_law 1534 = .ok (.aload_n 0, 1) := eL_law_1528.2.2.2.2.2.2.1
theorem dL_law_1535 : decode cL_law 1535 = .ok (.iload_n 3, 1) := eL_law_1528.2.2.2.2.2.2.2.1
theorem eL_law_1536 : decode cL_law 1536 = .ok (.iconst 3, 1) ∧ decode cL_law 1537 = .ok (.iadd, 1) ∧ decode cL_law 1538 = .ok (.iaload, 1) ∧ decode cL_law 1539 = .ok (.invokevirtual 199, 3) ∧ decode cL_law 1542 = .ok (.pop, 1) ∧ decode cL_law 1543 = .ok (.aload_n 2, 1) ∧ decode cL_law 1544 = .ok (.aload_n 0, 1) ∧ decode cL_law 1545 = .ok (.iload_n 3, 1) ∧ True := dkl_ok (c := cL_law) [(.iconst 3, 1), (.iadd, 1), (.iaload, 1), (.invokevirtual 199, 3), (.pop, 1), (.aload_n 2, 1), (.aload_n 0, 1), (.iload_n 3, 1)] 1536 (by decide +kernel)
theorem dL_law_1536 : decode cL_law 1536 = .ok (.iconst 3, 1) := eL_law_1536.1
theorem dL_law_1537 : decode cL_law 1537 = .ok (.iadd, 1) := eL_law_1536.2.1
theorem dL_law_1538 : decode cL_law 1538 = .ok (.iaload, 1) := eL_law_1536.2.2.1
theorem dL_law_1539 : decode cL_law 1539 = .ok (.invokevirtual 199, 3) := eL_law_1536.2.2.2.1
theorem dL_law_1542 : decode cL_law 1542 = .ok (.pop, 1) := eL_law_1536.2.2.2.2.1
theorem dL_law_1543 : decode cL_law 1543 = .ok (.aload_n 2, 1) := eL_law_1536.2.2.2.2.2.1
theorem dL_law_1544 : decode cL_law 1544 = .ok (.aload_n 0, 1) := eL_law_1536.2.2.2.2.2.2.1
theorem dL_law_1545 : decode cL_law 1545 = .ok (.iload_n 3, 1) := eL_law_1536.2.2.2.2.2.2.2.1
theorem eL_law_1546 : decode cL_law 1546 = .ok (.iconst 1, 1) ∧ decode cL_law 1547 = .ok (.iadd, 1) ∧ decode cL_law 1548 = .ok (.iaload, 1) ∧ decode cL_law 1549 = .ok (.aload_n 0, 1) ∧ decode cL_law 1550 = .ok (.iload_n 3, 1) ∧ decode cL_law 1551 = .ok (.iconst 2, 1) ∧ decode cL_law 1552 = .ok (.iadd, 1) ∧ decode cL_law 1553 = .ok (.iaload, 1) ∧ True := dkl_ok (c := cL_law) [(.iconst 1, 1), (.iadd, 1), (.iaload, 1), (.aload_n 0, 1), (.iload_n 3, 1), (.iconst 2, 1), (.iadd, 1), (.iaload, 1)] 1546 (by decide +kernel)
theorem dL_law_1546 : decode cL_law 1546 = .ok (.iconst 1, 1) := eL_law_1546.1
theorem dL_law_1547 : decode cL_law 1547 = .ok (.iadd, 1) := eL_law_1546.2.1
theorem dL_law_1548 : decode cL_law 1548 = .ok (.iaload, 1) := eL_law_1546.2.2.1
theorem dL_law_1549 : decode cL_law 1549 = .ok (.aload_n 0, 1) := eL_law_1546.2.2.2.1
theorem dL_law_1550 : decode cL_law 1550 = .ok (.iload_n 3, 1) := eL_law_1546.2.2.2.2.1
theorem dL_law_1551 : decode cL_law 1551 = .ok (.iconst 2, 1) := eL_law_1546.2.2.2.2.2.1
theorem dL_law_1552 : decode cL_law 1552 = .ok (.iadd, 1) := eL_law_1546.2.2.2.2.2.2.1
theorem dL_law_1553 : decode cL_law 1553 = .ok (.iaload, 1) := eL_law_1546.2.2.2.2.2.2.2.1
theorem eL_law_1554 : decode cL_law 1554 = .ok (.aload_n 0, 1) ∧ decode cL_law 1555 = .ok (.iload_n 3, 1) ∧ decode cL_law 1556 = .ok (.iconst 3, 1) ∧ decode cL_law 1557 = .ok (.iadd, 1) ∧ decode cL_law 1558 = .ok (.iaload, 1) ∧ decode cL_law 1559 = .ok (.invokevirtual 202, 3) ∧ decode cL_law 1562 = .ok (.pop, 1) ∧ decode cL_law 1563 = .ok (.goto 233, 3) ∧ True := dkl_ok (c := cL_law) [(.aload_n 0, 1), (.iload_n 3, 1), (.iconst 3, 1), (.iadd, 1), (.iaload, 1), (.invokevirtual 202, 3), (.pop, 1), (.goto 233, 3)] 1554 (by decide +kernel)
theorem dL_law_1554 : decode cL_law 1554 = .ok (.aload_n 0, 1) := eL_law_1554.1
theorem dL_law_1555 : decode cL_law 1555 = .ok (.iload_n 3, 1) := eL_law_1554.2.1
theorem dL_law_1556 : decode cL_law 1556 = .ok (.iconst 3, 1) := eL_law_1554.2.2.1
theorem dL_law_1557 : decode cL_law 1557 = .ok (.iadd, 1) := eL_law_1554.2.2.2.1
theorem dL_law_1558 : decode cL_law 1558 = .ok (.iaload, 1) := eL_law_1554.2.2.2.2.1
theorem dL_law_1559 : decode cL_law 1559 = .ok (.invokevirtual 202, 3) := eL_law_1554.2.2.2.2.2.1
theorem dL_law_1562 : decode cL_law 1562 = .ok (.pop, 1) := eL_law_1554.2.2.2.2.2.2.1
theorem dL_law_1563 : decode cL_law 1563 = .ok (.goto 233, 3) := eL_law_1554.2.2.2.2.2.2.2.1
theorem eL_law_1566 : decode cL_law 1566 = .ok (.aload_n 1, 1) ∧ decode cL_law 1567 = .ok (.invokevirtual 203, 3) ∧ decode cL_law 1570 = .ok (.pop, 1) ∧ decode cL_law 1571 = .ok (.aload_n 2, 1) ∧ decode cL_law 1572 = .ok (.invokevirtual 206, 3) ∧ decode cL_law 1575 = .ok (.pop, 1) ∧ decode cL_law 1576 = .ok (.goto 220, 3) ∧ decode cL_law 1579 = .ok (.aload_n 1, 1) ∧ True := dkl_ok (c := cL_law) [(.aload_n 1, 1), (.invokevirtual 203, 3), (.pop, 1), (.aload_n 2, 1), (.invokevirtual 206, 3), (.pop, 1), (.goto 220, 3), (.aload_n 1, 1)] 1566 (by decide +kernel)
theorem dL_law_1566 : decode cL_law 1566 = .ok (.aload_n 1, 1) := eL_law_1566.1
theorem dL_law_1567 : decode cL_law 1567 = .ok (.invokevirtual 203, 3) := eL_law_1566.2.1
theorem dL_law_1570 : decode cL_law 1570 = .ok (.pop, 1) := eL_law_1566.2.2.1
theorem dL_law_1571 : decode cL_law 1571 = .ok (.aload_n 2, 1) := eL_law_1566.2.2.2.1
theorem dL_law_1572 : decode cL_law 1572 = .ok (.invokevirtual 206, 3) := eL_law_1566.2.2.2.2.1
theorem dL_law_1575 : decode cL_law 1575 = .ok (.pop, 1) := eL_law_1566.2.2.2.2.2.1
theorem dL_law_1576 : decode cL_law 1576 = .ok (.goto 220, 3) := eL_law_1566.2.2.2.2.2.2.1
theorem dL_law_1579 : decode cL_law 1579 = .ok (.aload_n 1, 1) := eL_law_1566.2.2.2.2.2.2.2.1
theorem eL_law_1580 : decode cL_law 1580 = .ok (.aload_n 0, 1) ∧ decode cL_law 1581 = .ok (.iload_n 3, 1) ∧ decode cL_law 1582 = .ok (.iconst 1, 1) ∧ decode cL_law 1583 = .ok (.iadd, 1) ∧ decode cL_law 1584 = .ok (.iaload, 1) ∧ decode cL_law 1585 = .ok (.invokevirtual 207, 3) ∧ decode cL_law 1588 = .ok (.pop, 1) ∧ decode cL_law 1589 = .ok (.aload_n 2, 1) ∧ True := dkl_ok (c := cL_law) [(.aload_n 0, 1), (.iload_n 3, 1), (.iconst 1, 1), (.iadd, 1), (.iaload, 1), (.invokevirtual 207, 3), (.pop, 1), (.aload_n 2, 1)] 1580 (by decide +kernel)
theorem dL_law_1580 : decode cL_law 1580 = .ok (.aload_n 0, 1) := eL_law_1580.1
theorem dL_law_1581 : decode cL_law 1581 = .ok (.iload_n 3, 1) := eL_law_1580.2.1
theorem dL_law_1582 : decode cL_law 1582 = .ok (.iconst 1, 1) := eL_law_1580.2.2.1
theorem dL_law_1583 : decode cL_law 1583 = .ok (.iadd, 1) := eL_law_1580.2.2.2.1
theorem dL_law_1584 : decode cL_law 1584 = .ok (.iaload, 1) := eL_law_1580.2.2.2.2.1
theorem dL_law_1585 : decode cL_law 1585 = .ok (.invokevirtual 207, 3) := eL_law_1580.2.2.2.2.2.1
theorem dL_law_1588 : decode cL_law 1588 = .ok (.pop, 1) := eL_law_1580.2.2.2.2.2.2.1
theorem dL_law_1589 : decode cL_law 1589 = .ok (.aload_n 2, 1) := eL_law_1580.2.2.2.2.2.2.2.1
theorem eL_law_1590 : decode cL_law 1590 = .ok (.aload_n 0, 1) ∧ decode cL_law 1591 = .ok (.iload_n 3, 1) ∧ decode cL_law 1592 = .ok (.iconst 1, 1) ∧ decode cL_law 1593 = .ok (.iadd, 1) ∧ decode cL_law 1594 = .ok (.iaload, 1) ∧ decode cL_law 1595 = .ok (.invokevirtual 210, 3) ∧ decode cL_law 1598 = .ok (.pop, 1) ∧ decode cL_law 1599 = .ok (.goto 197, 3) ∧ True := dkl_ok (c := cL_law) [(.aload_n 0, 1), (.iload_n 3, 1), (.iconst 1, 1), (.iadd, 1), (.iaload, 1), (.invokevirtual 210, 3), (.pop, 1), (.goto 197, 3)] 1590 (by decide +kernel)
theorem dL_law_1590 : decode cL_law 1590 = .ok (.aload_n 0, 1) := eL_law_1590.1
theorem dL_law_1591 : decode cL_law 1591 = .ok (.iload_n 3, 1) := eL_law_1590.2.1
theorem dL_law_1592 : decode cL_law 1592 = .ok (.iconst 1, 1) := eL_law_1590.2.2.1
theorem dL_law_1593 : decode cL_law 1593 = .ok (.iadd, 1) := eL_law_1590.2.2.2.1
theorem dL_law_1594 : decode cL_law 1594 = .ok (.iaload, 1) := eL_law_1590.2.2.2.2.1
theorem dL_law_1595 : decode cL_law 1595 = .ok (.invokevirtual 210, 3) := eL_law_1590.2.2.2.2.2.1
theorem dL_law_1598 : decode cL_law 1598 = .ok (.pop, 1) := eL_law_1590.2.2.2.2.2.2.1
theorem dL_law_1599 : decode cL_law 1599 = .ok (.goto 197, 3) := eL_law_1590.2.2.2.2.2.2.2.1
theorem eL_law_1602 : decode cL_law 1602 = .ok (.aload_n 1, 1) ∧ decode cL_law 1603 = .ok (.aload_n 0, 1) ∧ decode cL_law 1604 = .ok (.iload_n 3, 1) ∧ decode cL_law 1605 = .ok (.iconst 1, 1) ∧ decode cL_law 1606 = .ok (.iadd, 1) ∧ decode cL_law 1607 = .ok (.iaload, 1) ∧ decode cL_law 1608 = .ok (.invokevirtual 211, 3) ∧ decode cL_law 1611 = .ok (.pop, 1) ∧ True := dkl_ok (c := cL_law) [(.aload_n 1, 1), (.aload_n 0, 1), (.iload_n 3, 1), (.iconst 1, 1), (.iadd, 1), (.iaload, 1), (.invokevirtual 211, 3), (.pop, 1)] 1602 (by decide +kernel)
theorem dL_law_1602 : decode cL_law 1602 = .ok (.aload_n 1, 1) := eL_law_1602.1
theorem dL_law_1603 : decode cL_law 1603 = .ok (.aload_n 0, 1) := eL_law_1602.2.1
theorem dL_law_1604 : decode cL_law 1604 = .ok (.iload_n 3, 1) := eL_law_1602.2.2.1
theorem dL_law_1605 : decode cL_law 1605 = .ok (.iconst 1, 1) := eL_law_1602.2.2.2.1
theorem dL_law_1606 : decode cL_law 1606 = .ok (.iadd, 1) := eL_law_1602.2.2.2.2.1
theorem dL_law_1607 : decode cL_law 1607 = .ok (.iaload, 1) := eL_law_1602.2.2.2.2.2.1
theorem dL_law_1608 : decode cL_law 1608 = .ok (.invokevirtual 211, 3) := eL_law_1602.2.2.2.2.2.2.1
theorem dL_law_1611 : decode cL_law 1611 = .ok (.pop, 1) := eL_law_1602.2.2.2.2.2.2.2.1
theorem eL_law_1612 : decode cL_law 1612 = .ok (.aload_n 2, 1) ∧ decode cL_law 1613 = .ok (.aload_n 0, 1) ∧ decode cL_law 1614 = .ok (.iload_n 3, 1) ∧ decode cL_law 1615 = .ok (.iconst 1, 1) ∧ decode cL_law 1616 = .ok (.iadd, 1) ∧ decode cL_law 1617 = .ok (.iaload, 1) ∧ decode cL_law 1618 = .ok (.invokevirtual 214, 3) ∧ decode cL_law 1621 = .ok (.pop, 1) ∧ True := dkl_ok (c := cL_law) [(.aload_n 2, 1), (.aload_n 0, 1), (.iload_n 3, 1), (.iconst 1, 1), (.iadd, 1), (.iaload, 1), (.invokevirtual 214, 3), (.pop, 1)] 1612 (by decide +kernel)
theorem dL_law_1612 : decode cL_law 1612 = .ok (.aload_n 2, 1) := eL_law_1612.1
theorem dL_law_1613 : decode cL_law 1613 = .ok (.aload_n 0, 1) := eL_law_1612.2.1
theorem dL_law_1614 : decode cL_law 1614 = .ok (.iload_n 3, 1) := eL_law_1612.2.2.1
theorem dL_law_1615 : decode cL_law 1615 = .ok (.iconst 1, 1) := eL_law_1612.2.2.2.1
theorem dL_law_1616 : decode cL_law 1616 = .ok (.iadd, 1) := eL_law_1612.2.2.2.2.1
theorem dL_law_1617 : decode cL_law 1617 = .ok (.iaload, 1) := eL_law_1612.2.2.2.2.2.1
theorem dL_law_1618 : decode cL_law 1618 = .ok (.invokevirtual 214, 3) := eL_law_1612.2.2.2.2.2.2.1
theorem dL_law_1621 : decode cL_law 1621 = .ok (.pop, 1) := eL_law_1612.2.2.2.2.2.2.2.1
theorem eL_law_1622 : decode cL_law 1622 = .ok (.goto 174, 3) ∧ decode cL_law 1625 = .ok (.aload_n 1, 1) ∧ decode cL_law 1626 = .ok (.invokevirtual 215, 3) ∧ decode cL_law 1629 = .ok (.pop, 1) ∧ decode cL_law 1630 = .ok (.aload_n 2, 1) ∧ decode cL_law 1631 = .ok (.invokevirtual 218, 3) ∧ decode cL_law 1634 = .ok (.pop, 1) ∧ decode cL_law 1635 = .ok (.goto 161, 3) ∧ True := dkl_ok (c := cL_law) [(.goto 174, 3), (.aload_n 1, 1), (.invokevirtual 215, 3), (.pop, 1), (.aload_n 2, 1), (.invokevirtual 218, 3), (.pop, 1), (.goto 161, 3)] 1622 (by decide +kernel)
theorem dL_law_1622 : decode cL_law 1622 = .ok (.goto 174, 3) := eL_law_1622.1
theorem dL_law_1625 : decode cL_law 1625 = .ok (.aload_n 1, 1) := eL_law_1622.2.1
theorem dL_law_1626 : decode cL_law 1626 = .ok (.invokevirtual 215, 3) := eL_law_1622.2.2.1
theorem dL_law_1629 : decode cL_law 1629 = .ok (.pop, 1) := eL_law_1622.2.2.2.1
theorem dL_law_1630 : decode cL_law 1630 = .ok (.aload_n 2, 1) := eL_law_1622.2.2.2.2.1
theorem dL_law_1631 : decode cL_law 1631 = .ok (.invokevirtual 218, 3) := eL_law_1622.2.2.2.2.2.1
theorem dL_law_1634 : decode cL_law 1634 = .ok (.pop, 1) := eL_law_1622.2.2.2.2.2.2.1
theorem dL_law_1635 : decode cL_law 1635 = .ok (.goto 161, 3) := eL_law_1622.2.2.2.2.2.2.2.1
theorem eL_law_1638 : decode cL_law 1638 = .ok (.aload_n 1, 1) ∧ decode cL_law 1639 = .ok (.aload_n 0, 1) ∧ decode cL_law 1640 = .ok (.iload_n 3, 1) ∧ decode cL_law 1641 = .ok (.iconst 1, 1) ∧ decode cL_law 1642 = .ok (.iadd, 1) ∧ decode cL_law 1643 = .ok (.iaload, 1) ∧ decode cL_law 1644 = .ok (.invokevirtual 219, 3) ∧ decode cL_law 1647 = .ok (.pop, 1) ∧ True := dkl_ok (c := cL_law) [(.aload_n 1, 1), (.aload_n 0, 1), (.iload_n 3, 1), (.iconst 1, 1), (.iadd, 1), (.iaload, 1), (.invokevirtual 219, 3), (.pop, 1)] 1638 (by decide +kernel)
theorem dL_law_1638 : decode cL_law 1638 = .ok (.aload_n 1, 1) := eL_law_1638.1
theorem dL_law_1639 : decode cL_law 1639 = .ok (.aload_n 0, 1) := eL_law_1638.2.1
theorem dL_law_1640 : decode cL_law 1640 = .ok (.iload_n 3, 1) := eL_law_1638.2.2.1
theorem dL_law_1641 : decode cL_law 1641 = .ok (.iconst 1, 1) := eL_law_1638.2.2.2.1
theorem dL_law_1642 : decode cL_law 1642 = .ok (.iadd, 1) := eL_law_1638.2.2.2.2.1
theorem dL_law_1643 : decode cL_law 1643 = .ok (.iaload, 1) := eL_law_1638.2.2.2.2.2.1
theorem dL_law_1644 : decode cL_law 1644 = .ok (.invokevirtual 219, 3) := eL_law_1638.2.2.2.2.2.2.1
theorem dL_law_1647 : decode cL_law 1647 = .ok (.pop, 1) := eL_law_1638.2.2.2.2.2.2.2.1
theorem eL_law_1648 : decode cL_law 1648 = .ok (.aload_n 2, 1) ∧ decode cL_law 1649 = .ok (.aload_n 0, 1) ∧ decode cL_law 1650 = .ok (.iload_n 3, 1) ∧ decode cL_law 1651 = .ok (.iconst 1, 1) ∧ decode cL_law 1652 = .ok (.iadd, 1) ∧ decode cL_law 1653 = .ok (.iaload, 1) ∧ decode cL_law 1654 = .ok (.invokevirtual 222, 3) ∧ decode cL_law 1657 = .ok (.pop, 1) ∧ True := dkl_ok (c := cL_law) [(.aload_n 2, 1), (.aload_n 0, 1), (.iload_n 3, 1), (.iconst 1, 1), (.iadd, 1), (.iaload, 1), (.invokevirtual 222, 3), (.pop, 1)] 1648 (by decide +kernel)
theorem dL_law_1648 : decode cL_law 1648 = .ok (.aload_n 2, 1) := eL_law_1648.1
theorem dL_law_1649 : decode cL_law 1649 = .ok (.aload_n 0, 1) := eL_law_1648.2.1
theorem dL_law_1650 : decode cL_law 1650 = .ok (.iload_n 3, 1) := eL_law_1648.2.2.1
theorem dL_law_1651 : decode cL_law 1651 = .ok (.iconst 1, 1) := eL_law_1648.2.2.2.1
theorem dL_law_1652 : decode cL_law 1652 = .ok (.iadd, 1) := eL_law_1648.2.2.2.2.1
theorem dL_law_1653 : decode cL_law 1653 = .ok (.iaload, 1) := eL_law_1648.2.2.2.2.2.1
theorem dL_law_1654 : decode cL_law 1654 = .ok (.invokevirtual 222, 3) := eL_law_1648.2.2.2.2.2.2.1
theorem dL_law_1657 : decode cL_law 1657 = .ok (.pop, 1) := eL_law_1648.2.2.2.2.2.2.2.1
theorem eL_law_1658 : decode cL_law 1658 = .ok (.goto 138, 3) ∧ decode cL_law 1661 = .ok (.aload_n 1, 1) ∧ decode cL_law 1662 = .ok (.aload_n 0, 1) ∧ decode cL_law 1663 = .ok (.iload_n 3, 1) ∧ decode cL_law 1664 = .ok (.iconst 1, 1) ∧ decode cL_law 1665 = .ok (.iadd, 1) ∧ decode cL_law 1666 = .ok (.iaload, 1) ∧ decode cL_law 1667 = .ok (.invokevirtual 223, 3) ∧ True := dkl_ok (c := cL_law) [(.goto 138, 3), (.aload_n 1, 1), (.aload_n 0, 1), (.iload_n 3, 1), (.iconst 1, 1), (.iadd, 1), (.iaload, 1), (.invokevirtual 223, 3)] 1658 (by decide +kernel)
theorem dL_law_1658 : decode cL_law 1658 = .ok (.goto 138, 3) := eL_law_1658.1
theorem dL_law_1661 : decode cL_law 1661 = .ok (.aload_n 1, 1) := eL_law_1658.2.1
theorem dL_law_1662 : decode cL_law 1662 = .ok (.aload_n 0, 1) := eL_law_1658.2.2.1
theorem dL_law_1663 : decode cL_law 1663 = .ok (.iload_n 3, 1) := eL_law_1658.2.2.2.1
theorem dL_law_1664 : decode cL_law 1664 = .ok (.iconst 1, 1) := eL_law_1658.2.2.2.2.1
theorem dL_law_1665 : decode cL_law 1665 = .ok (.iadd, 1) := eL_law_1658.2.2.2.2.2.1
theorem dL_law_1666 : decode cL_law 1666 = .ok (.iaload, 1) := eL_law_1658.2.2.2.2.2.2.1
theorem dL_law_1667 : decode cL_law 1667 = .ok (.invokevirtual 223, 3) := eL_law_1658.2.2.2.2.2.2.2.1
theorem eL_law_1670 : decode cL_law 1670 = .ok (.pop, 1) ∧ decode cL_law 1671 = .ok (.aload_n 2, 1) ∧ decode cL_law 1672 = .ok (.aload_n 0, 1) ∧ decode cL_law 1673 = .ok (.iload_n 3, 1) ∧ decode cL_law 1674 = .ok (.iconst 1, 1) ∧ decode cL_law 1675 = .ok (.iadd, 1) ∧ decode cL_law 1676 = .ok (.iaload, 1) ∧ decode cL_law 1677 = .ok (.invokevirtual 226, 3) ∧ True := dkl_ok (c := cL_law) [(.pop, 1), (.aload_n 2, 1), (.aload_n 0, 1), (.iload_n 3, 1), (.iconst 1, 1), (.iadd, 1), (.iaload, 1), (.invokevirtual 226, 3)] 1670 (by decide +kernel)
theorem dL_law_1670 : decode cL_law 1670 = .ok (.pop, 1) := eL_law_1670.1
theorem dL_law_1671 : decode cL_law 1671 = .ok (.aload_n 2, 1) := eL_law_1670.2.1
theorem dL_law_1672 : decode cL_law 1672 = .ok (.aload_n 0, 1) := eL_law_1670.2.2.1
theorem dL_law_1673 : decode cL_law 1673 = .ok (.iload_n 3, 1) := eL_law_1670.2.2.2.1
theorem dL_law_1674 : decode cL_law 1674 = .ok (.iconst 1, 1) := eL_law_1670.2.2.2.2.1
theorem dL_law_1675 : decode cL_law 1675 = .ok (.iadd, 1) := eL_law_1670.2.2.2.2.2.1
theorem dL_law_1676 : decode cL_law 1676 = .ok (.iaload, 1) := eL_law_1670.2.2.2.2.2.2.1
theorem dL_law_1677 : decode cL_law 1677 = .ok (.invokevirtual 226, 3) := eL_law_1670.2.2.2.2.2.2.2.1
theorem eL_law_1680 : decode cL_law 1680 = .ok (.pop, 1) ∧ decode cL_law 1681 = .ok (.goto 115, 3) ∧ decode cL_law 1684 = .ok (.aload_n 1, 1) ∧ decode cL_law 1685 = .ok (.aload_n 0, 1) ∧ decode cL_law 1686 = .ok (.iload_n 3, 1) ∧ decode cL_law 1687 = .ok (.iconst 1, 1) ∧ decode cL_law 1688 = .ok (.iadd, 1) ∧ decode cL_law 1689 = .ok (.iaload, 1) ∧ True := dkl_ok (c := cL_law) [(.pop, 1), (.goto 115, 3), (.aload_n 1, 1), (.aload_n 0, 1), (.iload_n 3, 1), (.iconst 1, 1), (.iadd, 1), (.iaload, 1)] 1680 (by decide +kernel)
theorem dL_law_1680 : decode cL_law 1680 = .ok (.pop, 1) := eL_law_1680.1
theorem dL_law_1681 : decode cL_law 1681 = .ok (.goto 115, 3) := eL_law_1680.2.1
theorem dL_law_1684 : decode cL_law 1684 = .ok (.aload_n 1, 1) := eL_law_1680.2.2.1
theorem dL_law_1685 : decode cL_law 1685 = .ok (.aload_n 0, 1) := eL_law_1680.2.2.2.1
theorem dL_law_1686 : decode cL_law 1686 = .ok (.iload_n 3, 1) := eL_law_1680.2.2.2.2.1
theorem dL_law_1687 : decode cL_law 1687 = .ok (.iconst 1, 1) := eL_law_1680.2.2.2.2.2.1
theorem dL_law_1688 : decode cL_law 1688 = .ok (.iadd, 1) := eL_law_1680.2.2.2.2.2.2.1
theorem dL_law_1689 : decode cL_law 1689 = .ok (.iaload, 1) := eL_law_1680.2.2.2.2.2.2.2.1
theorem eL_law_1690 : decode cL_law 1690 = .ok (.aload_n 0, 1) ∧ decode cL_law 1691 = .ok (.iload_n 3, 1) ∧ decode cL_law 1692 = .ok (.iconst 2, 1) ∧ decode cL_law 1693 = .ok (.iadd, 1) ∧ decode cL_law 1694 = .ok (.iaload, 1) ∧ decode cL_law 1695 = .ok (.aload_n 0, 1) ∧ decode cL_law 1696 = .ok (.iload_n 3, 1) ∧ decode cL_law 1697 = .ok (.iconst 3, 1) ∧ True := dkl_ok (c := cL_law) [(.aload_n 0, 1), (.iload_n 3, 1), (.iconst 2, 1), (.iadd, 1), (.iaload, 1), (.aload_n 0, 1), (.iload_n 3, 1), (.iconst 3, 1)] 1690 (by decide +kernel)
theorem dL_law_1690 : decode cL_law 1690 = .ok (.aload_n 0, 1) := eL_law_1690.1
theorem dL_law_1691 : decode cL_law 1691 = .ok (.iload_n 3, 1) := eL_law_1690.2.1
theorem dL_law_1692 : decode cL_law 1692 = .ok (.iconst 2, 1) := eL_law_1690.2.2.1
theorem dL_law_1693 : decode cL_law 1693 = .ok (.iadd, 1) := eL_law_1690.2.2.2.1
theorem dL_law_1694 : decode cL_law 1694 = .ok (.iaload, 1) := eL_law_1690.2.2.2.2.1
theorem dL_law_1695 : decode cL_law 1695 = .ok (.aload_n 0, 1) := eL_law_1690.2.2.2.2.2.1
theorem dL_law_1696 : decode cL_law 1696 = .ok (.iload_n 3, 1) := eL_law_1690.2.2.2.2.2.2.1
theorem dL_law_1697 : decode cL_law 1697 = .ok (.iconst 3, 1) := eL_law_1690.2.2.2.2.2.2.2.1
theorem eL_law_1698 : decode cL_law 1698 = .ok (.iadd, 1) ∧ decode cL_law 1699 = .ok (.iaload, 1) ∧ decode cL_law 1700 = .ok (.invokevirtual 227, 3) ∧ decode cL_law 1703 = .ok (.pop, 1) ∧ decode cL_law 1704 = .ok (.aload_n 2, 1) ∧ decode cL_law 1705 = .ok (.aload_n 0, 1) ∧ decode cL_law 1706 = .ok (.iload_n 3, 1) ∧ decode cL_law 1707 = .ok (.iconst 1, 1) ∧ True := dkl_ok (c := cL_law) [(.iadd, 1), (.iaload, 1), (.invokevirtual 227, 3), (.pop, 1), (.aload_n 2, 1), (.aload_n 0, 1), (.iload_n 3, 1), (.iconst 1, 1)] 1698 (by decide +kernel)
theorem dL_law_1698 : decode cL_law 1698 = .ok (.iadd, 1) := eL_law_1698.1
theorem dL_law_1699 : decode cL_law 1699 = .ok (.iaload, 1) := eL_law_1698.2.1
theorem dL_law_1700 : decode cL_law 1700 = .ok (.invokevirtual 227, 3) := eL_law_1698.2.2.1
theorem dL_law_1703 : decode cL_law 1703 = .ok (.pop, 1) := eL_law_1698.2.2.2.1
theorem dL_law_1704 : decode cL_law 1704 = .ok (.aload_n 2, 1) := eL_law_1698.2.2.2.2.1
theorem dL_law_1705 : decode cL_law 1705 = .ok (.aload_n 0, 1) := eL_law_1698.2.2.2.2.2.1
theorem dL_law_1706 : decode cL_law 1706 = .ok (.iload_n 3, 1) := eL_law_1698.2.2.2.2.2.2.1
theorem dL_law_1707 : decode cL_law 1707 = .ok (.iconst 1, 1) := eL_law_1698.2.2.2.2.2.2.2.1
theorem eL_law_1708 : decode cL_law 1708 = .ok (.iadd, 1) ∧ decode cL_law 1709 = .ok (.iaload, 1) ∧ decode cL_law 1710 = .ok (.aload_n 0, 1) ∧ decode cL_law 1711 = .ok (.iload_n 3, 1) ∧ decode cL_law 1712 = .ok (.iconst 2, 1) ∧ decode cL_law 1713 = .ok (.iadd, 1) ∧ decode cL_law 1714 = .ok (.iaload, 1) ∧ decode cL_law 1715 = .ok (.aload_n 0, 1) ∧ True := dkl_ok (c := cL_law) [(.iadd, 1), (.iaload, 1), (.aload_n 0, 1), (.iload_n 3, 1), (.iconst 2, 1), (.iadd, 1), (.iaload, 1), (.aload_n 0, 1)] 1708 (by decide +kernel)
theorem dL_law_1708 : decode cL_law 1708 = .ok (.iadd, 1) := eL_law_1708.1
theorem dL_law_1709 : decode cL_law 1709 = .ok (.iaload, 1) := eL_law_1708.2.1
theorem dL_law_1710 : decode cL_law 1710 = .ok (.aload_n 0, 1) := eL_law_1708.2.2.1
theorem dL_law_1711 : decode cL_law 1711 = .ok (.iload_n 3, 1) := eL_law_1708.2.2.2.1
theorem dL_law_1712 : decode cL_law 1712 = .ok (.iconst 2, 1) := eL_law_1708.2.2.2.2.1
theorem dL_law_1713 : decode cL_law 1713 = .ok (.iadd, 1) := eL_law_1708.2.2.2.2.2.1
theorem dL_law_1714 : decode cL_law 1714 = .ok (.iaload, 1) := eL_law_1708.2.2.2.2.2.2.1
theorem dL_law_1715 : decode cL_law 1715 = .ok (.aload_n 0, 1) := eL_law_1708.2.2.2.2.2.2.2.1
theorem eL_law_1716 : decode cL_law 1716 = .ok (.iload_n 3, 1) ∧ decode cL_law 1717 = .ok (.iconst 3, 1) ∧ decode cL_law 1718 = .ok (.iadd, 1) ∧ decode cL_law 1719 = .ok (.iaload, 1) ∧ decode cL_law 1720 = .ok (.invokevirtual 230, 3) ∧ decode cL_law 1723 = .ok (.pop, 1) ∧ decode cL_law 1724 = .ok (.goto 72, 3) ∧ decode cL_law 1727 = .ok (.aload_n 1, 1) ∧ True := dkl_ok (c := cL_law) [(.iload_n 3, 1), (.iconst 3, 1), (.iadd, 1), (.iaload, 1), (.invokevirtual 230, 3), (.pop, 1), (.goto 72, 3), (.aload_n 1, 1)] 1716 (by decide +kernel)
theorem dL_law_1716 : decode cL_law 1716 = .ok (.iload_n 3, 1) := eL_law_1716.1
theorem dL_law_1717 : decode cL_law 1717 = .ok (.iconst 3, 1) := eL_law_1716.2.1
theorem dL_law_1718 : decode cL_law 1718 = .ok (.iadd, 1) := eL_law_1716.2.2.1
theorem dL_law_1719 : decode cL_law 1719 = .ok (.iaload, 1) := eL_law_1716.2.2.2.1
theorem dL_law_1720 : decode cL_law 1720 = .ok (.invokevirtual 230, 3) := eL_law_1716.2.2.2.2.1
theorem dL_law_1723 : decode cL_law 1723 = .ok (.pop, 1) := eL_law_1716.2.2.2.2.2.1
theorem dL_law_1724 : decode cL_law 1724 = .ok (.goto 72, 3) := eL_law_1716.2.2.2.2.2.2.1
theorem dL_law_1727 : decode cL_law 1727 = .ok (.aload_n 1, 1) := eL_law_1716.2.2.2.2.2.2.2.1
theorem eL_law_1728 : decode cL_law 1728 = .ok (.aload_n 0, 1) ∧ decode cL_law 1729 = .ok (.iload_n 3, 1) ∧ decode cL_law 1730 = .ok (.iconst 1, 1) ∧ decode cL_law 1731 = .ok (.iadd, 1) ∧ decode cL_law 1732 = .ok (.iaload, 1) ∧ decode cL_law 1733 = .ok (.aload_n 0, 1) ∧ decode cL_law 1734 = .ok (.iload_n 3, 1) ∧ decode cL_law 1735 = .ok (.iconst 2, 1) ∧ True := dkl_ok (c := cL_law) [(.aload_n 0, 1), (.iload_n 3, 1), (.iconst 1, 1), (.iadd, 1), (.iaload, 1), (.aload_n 0, 1), (.iload_n 3, 1), (.iconst 2, 1)] 1728 (by decide +kernel)
theorem dL_law_1728 : decode cL_law 1728 = .ok (.aload_n 0, 1) := eL_law_1728.1
theorem dL_law_1729 : decode cL_law 1729 = .ok (.iload_n 3, 1) := eL_law_1728.2.1
theorem dL_law_1730 : decode cL_law 1730 = .ok (.iconst 1, 1) := eL_law_1728.2.2.1
theorem dL_law_1731 : decode cL_law 1731 = .ok (.iadd, 1) := eL_law_1728.2.2.2.1
theorem dL_law_1732 : decode cL_law 1732 = .ok (.iaload, 1) := eL_law_1728.2.2.2.2.1
theorem dL_law_1733 : decode cL_law 1733 = .ok (.aload_n 0, 1) := eL_law_1728.2.2.2.2.2.1
theorem dL_law_1734 : decode cL_law 1734 = .ok (.iload_n 3, 1) := eL_law_1728.2.2.2.2.2.2.1
theorem dL_law_1735 : decode cL_law 1735 = .ok (.iconst 2, 1) := eL_law_1728.2.2.2.2.2.2.2.1
theorem eL_law_1736 : decode cL_law 1736 = .ok (.iadd, 1) ∧ decode cL_law 1737 = .ok (.iaload, 1) ∧ decode cL_law 1738 = .ok (.aload_n 0, 1) ∧ decode cL_law 1739 = .ok (.iload_n 3, 1) ∧ decode cL_law 1740 = .ok (.iconst 3, 1) ∧ decode cL_law 1741 = .ok (.iadd, 1) ∧ decode cL_law 1742 = .ok (.iaload, 1) ∧ decode cL_law 1743 = .ok (.invokevirtual 231, 3) ∧ True := dkl_ok (c := cL_law) [(.iadd, 1), (.iaload, 1), (.aload_n 0, 1), (.iload_n 3, 1), (.iconst 3, 1), (.iadd, 1), (.iaload, 1), (.invokevirtual 231, 3)] 1736 (by decide +kernel)
theorem dL_law_1736 : decode cL_law 1736 = .ok (.iadd, 1) := eL_law_1736.1
theorem dL_law_1737 : decode cL_law 1737 = .ok (.iaload, 1) := eL_law_1736.2.1
theorem dL_law_1738 : decode cL_law 1738 = .ok (.aload_n 0, 1) := eL_law_1736.2.2.1
theorem dL_law_1739 : decode cL_law 1739 = .ok (.iload_n 3, 1) := eL_law_1736.2.2.2.1
theorem dL_law_1740 : decode cL_law 1740 = .ok (.iconst 3, 1) := eL_law_1736.2.2.2.2.1
theorem dL_law_1741 : decode cL_law 1741 = .ok (.iadd, 1) := eL_law_1736.2.2.2.2.2.1
theorem dL_law_1742 : decode cL_law 1742 = .ok (.iaload, 1) := eL_law_1736.2.2.2.2.2.2.1
theorem dL_law_1743 : decode cL_law 1743 = .ok (.invokevirtual 231, 3) := eL_law_1736.2.2.2.2.2.2.2.1
theorem eL_law_1746 : decode cL_law 1746 = .ok (.aload_n 2, 1) ∧ decode cL_law 1747 = .ok (.aload_n 0, 1) ∧ decode cL_law 1748 = .ok (.iload_n 3, 1) ∧ decode cL_law 1749 = .ok (.iconst 1, 1) ∧ decode cL_law 1750 = .ok (.iadd, 1) ∧ decode cL_law 1751 = .ok (.iaload, 1) ∧ decode cL_law 1752 = .ok (.aload_n 0, 1) ∧ decode cL_law 1753 = .ok (.iload_n 3, 1) ∧ True := dkl_ok (c := cL_law) [(.aload_n 2, 1), (.aload_n 0, 1), (.iload_n 3, 1), (.iconst 1, 1), (.iadd, 1), (.iaload, 1), (.aload_n 0, 1), (.iload_n 3, 1)] 1746 (by decide +kernel)
theorem dL_law_1746 : decode cL_law 1746 = .ok (.aload_n 2, 1) := eL_law_1746.1
theorem dL_law_1747 : decode cL_law 1747 = .ok (.aload_n 0, 1) := eL_law_1746.2.1
theorem dL_law_1748 : decode cL_law 1748 = .ok (.iload_n 3, 1) := eL_law_1746.2.2.1
theorem dL_law_1749 : decode cL_law 1749 = .ok (.iconst 1, 1) := eL_law_1746.2.2.2.1
theorem dL_law_1750 : decode cL_law 1750 = .ok (.iadd, 1) := eL_law_1746.2.2.2.2.1
theorem dL_law_1751 : decode cL_law 1751 = .ok (.iaload, 1) := eL_law_1746.2.2.2.2.2.1
theorem dL_law_1752 : decode cL_law 1752 = .ok (.aload_n 0, 1) := eL_law_1746.2.2.2.2.2.2.1
theorem dL_law_1753 : decode cL_law 1753 = .ok (.iload_n 3, 1) := eL_law_1746.2.2.2.2.2.2.2.1
theorem eL_law_1754 : decode cL_law 1754 = .ok (.iconst 2, 1) ∧ decode cL_law 1755 = .ok (.iadd, 1) ∧ decode cL_law 1756 = .ok (.iaload, 1) ∧ decode cL_law 1757 = .ok (.aload_n 0, 1) ∧ decode cL_law 1758 = .ok (.iload_n 3, 1) ∧ decode cL_law 1759 = .ok (.iconst 3, 1) ∧ decode cL_law 1760 = .ok (.iadd, 1) ∧ decode cL_law 1761 = .ok (.iaload, 1) ∧ True := dkl_ok (c := cL_law) [(.iconst 2, 1), (.iadd, 1), (.iaload, 1), (.aload_n 0, 1), (.iload_n 3, 1), (.iconst 3, 1), (.iadd, 1), (.iaload, 1)] 1754 (by decide +kernel)
theorem dL_law_1754 : decode cL_law 1754 = .ok (.iconst 2, 1) := eL_law_1754.1
theorem dL_law_1755 : decode cL_law 1755 = .ok (.iadd, 1) := eL_law_1754.2.1
theorem dL_law_1756 : decode cL_law 1756 = .ok (.iaload, 1) := eL_law_1754.2.2.1
theorem dL_law_1757 : decode cL_law 1757 = .ok (.aload_n 0, 1) := eL_law_1754.2.2.2.1
theorem dL_law_1758 : decode cL_law 1758 = .ok (.iload_n 3, 1) := eL_law_1754.2.2.2.2.1
theorem dL_law_1759 : decode cL_law 1759 = .ok (.iconst 3, 1) := eL_law_1754.2.2.2.2.2.1
theorem dL_law_1760 : decode cL_law 1760 = .ok (.iadd, 1) := eL_law_1754.2.2.2.2.2.2.1
theorem dL_law_1761 : decode cL_law 1761 = .ok (.iaload, 1) := eL_law_1754.2.2.2.2.2.2.2.1
theorem eL_law_1762 : decode cL_law 1762 = .ok (.invokevirtual 234, 3) ∧ decode cL_law 1765 = .ok (.if_icmp .eq 31, 3) ∧ decode cL_law 1768 = .ok (.iconst 0, 1) ∧ decode cL_law 1769 = .ok (.ireturn, 1) ∧ decode cL_law 1770 = .ok (.aload_n 1, 1) ∧ decode cL_law 1771 = .ok (.invokevirtual 235, 3) ∧ decode cL_law 1774 = .ok (.pop, 1) ∧ decode cL_law 1775 = .ok (.aload_n 2, 1) ∧ True := dkl_ok (c := cL_law) [(.invokevirtual 234, 3), (.if_icmp .eq 31, 3), (.iconst 0, 1), (.ireturn, 1), (.aload_n 1, 1), (.invokevirtual 235, 3), (.pop, 1), (.aload_n 2, 1)] 1762 (by decide +kernel)
theorem dL_law_1762 : decode cL_law 1762 = .ok (.invokevirtual 234, 3) := eL_law_1762.1
theorem dL_law_1765 : decode cL_law 1765 = .ok (.if_icmp .eq 31, 3) := eL_law_1762.2.1
theorem dL_law_1768 : decode cL_law 1768 = .ok (.iconst 0, 1) := eL_law_1762.2.2.1
theorem dL_law_1769 : decode cL_law 1769 = .ok (.ireturn, 1) := eL_law_1762.2.2.2.1
theorem dL_law_1770 : decode cL_law 1770 = .ok (.aload_n 1, 1) := eL_law_1762.2.2.2.2.1
theorem dL_law_1771 : decode cL_law 1771 = .ok (.invokevirtual 235, 3) := eL_law_1762.2.2.2.2.2.1
theorem dL_law_1774 : decode cL_law 1774 = .ok (.pop, 1) := eL_law_1762.2.2.2.2.2.2.1
theorem dL_law_1775 : decode cL_law 1775 = .ok (.aload_n 2, 1) := eL_law_1762.2.2.2.2.2.2.2.1
theorem eL_law_1776 : decode cL_law 1776 = .ok (.invokevirtual 238, 3) ∧ decode cL_law 1779 = .ok (.pop, 1) ∧ decode cL_law 1780 = .ok (.goto 16, 3) ∧ decode cL_law 1783 = .ok (.aload_n 1, 1) ∧ decode cL_law 1784 = .ok (.invokevirtual 239, 3) ∧ decode cL_law 1787 = .ok (.pop, 1) ∧ decode cL_law 1788 = .ok (.aload_n 2, 1) ∧ decode cL_law 1789 = .ok (.invokevirtual 242, 3) ∧ True := dkl_ok (c := cL_law) [(.invokevirtual 238, 3), (.pop, 1), (.goto 16, 3), (.aload_n 1, 1), (.invokevirtual 239, 3), (.pop, 1), (.aload_n 2, 1), (.invokevirtual 242, 3)] 1776 (by decide +kernel)
theorem dL_law_1776 : decode cL_law 1776 = .ok (.invokevirtual 238, 3) := eL_law_1776.1
theorem dL_law_1779 : decode cL_law 1779 = .ok (.pop, 1) := eL_law_1776.2.1
theorem dL_law_1780 : decode cL_law 1780 = .ok (.goto 16, 3) := eL_law_1776.2.2.1
theorem dL_law_1783 : decode cL_law 1783 = .ok (.aload_n 1, 1) := eL_law_1776.2.2.2.1
theorem dL_law_1784 : decode cL_law 1784 = .ok (.invokevirtual 239, 3) := eL_law_1776.2.2.2.2.1
theorem dL_law_1787 : decode cL_law 1787 = .ok (.pop, 1) := eL_law_1776.2.2.2.2.2.1
theorem dL_law_1788 : decode cL_law 1788 = .ok (.aload_n 2, 1) := eL_law_1776.2.2.2.2.2.2.1
theorem dL_law_1789 : decode cL_law 1789 = .ok (.invokevirtual 242, 3) := eL_law_1776.2.2.2.2.2.2.2.1
theorem eL_law_1792 : decode cL_law 1792 = .ok (.pop, 1) ∧ decode cL_law 1793 = .ok (.goto 3, 3) ∧ decode cL_law 1796 = .ok (.iinc 3 6, 3) ∧ decode cL_law 1799 = .ok (.goto (-1781), 3) ∧ decode cL_law 1802 = .ok (.iconst 1, 1) ∧ decode cL_law 1803 = .ok (.ireturn, 1) ∧ True := dkl_ok (c := cL_law) [(.pop, 1), (.goto 3, 3), (.iinc 3 6, 3), (.goto (-1781), 3), (.iconst 1, 1), (.ireturn, 1)] 1792 (by decide +kernel)
theorem dL_law_1792 : decode cL_law 1792 = .ok (.pop, 1) := eL_law_1792.1
theorem dL_law_1793 : decode cL_law 1793 = .ok (.goto 3, 3) := eL_law_1792.2.1
theorem dL_law_1796 : decode cL_law 1796 = .ok (.iinc 3 6, 3) := eL_law_1792.2.2.1
theorem dL_law_1799 : decode cL_law 1799 = .ok (.goto (-1781), 3) := eL_law_1792.2.2.2.1
theorem dL_law_1802 : decode cL_law 1802 = .ok (.iconst 1, 1) := eL_law_1792.2.2.2.2.1
theorem dL_law_1803 : decode cL_law 1803 = .ok (.ireturn, 1) := eL_law_1792.2.2.2.2.2.1
end
/-! FROM 02.base.lean.txt -/
section
/-! THE WORLD: one typed heap. X says what lies where (kinds, constant references, lengths: nothing of it changes once it is made), the state what the cells hold. -/
abbrev XW : Type := (va_G × (Nat → ClassId)) × ((Nat → Nat) × ((Nat → Nat → Nat) × ((Nat → Nat) × ((Nat → Nat) × (Nat → Nat)))))
abbrev ST : Type := (Nat → Nat → Int32) × ((Nat → Nat → Int64) × (Nat → Nat))
def q_gD (X : XW) : va_G := X.1.1
def q_gA (X : XW) (t : Nat) : ClassId := X.1.2 t
def q_kd (X : XW) : Nat → Nat := X.2.1
def q_rf (X : XW) : Nat → Nat → Nat := X.2.2.1
def q_ln (X : XW) : Nat → Nat := X.2.2.2.1
/-- where the String constants lie, and their bytes -/
def q_sk (X : XW) : Nat → Nat := X.2.2.2.2.1
def q_sv (X : XW) : Nat → Nat := X.2.2.2.2.2
/-- the type of field f of an object of kind k: 0 int or boolean, 1 long, 2 a reference that stays, 3 the text of a reader -/
def q_ft (k f : Nat) : Nat := match k with
  | 1 => match f with | 0 => 2 | 1 => 2 | 2 => 2 | 3 => 2 | 8 => 2 | 10 => 2 | _ => 0
  | 2 => 2
  | 3 => match f with | 0 => 0 | 1 => 0 | _ => 2
  | 4 => match f with | 0 => 3 | 8 => 2 | 9 => 2 | _ => 0
  | 5 => 2
  | 6 => match f with | 5 => 2 | 6 => 2 | 7 => 2 | _ => 0
  | 7 => match f with | 7 => 2 | _ => 0
  | 8 => match f with | 0 => 0 | 1 => 0 | 2 => 0 | _ => 2
  | 9 => match f with | 0 => 3 | 8 => 2 | 11 => 2 | _ => 0
  | 10 => match f with | 2 => 2 | _ => 0
  | 11 => match f with | 1 => 1 | 2 => 1 | 3 => 2 | 4 => 2 | 8 => 2 | 9 => 2 | 10 => 2 | 12 => 2 | 13 => 2 | 14 => 2 | 15 => 2 | _ => 0
  | 12 => match f with | 2 => 1 | 3 => 1 | 4 => 2 | 5 => 2 | 6 => 2 | 7 => 2 | 19 => 1 | 20 => 2 | 21 => 2 | 22 => 2 | 23 => 2 | 28 => 2 | 29 => 2 | 30 => 1 | 31 => 1 | 32 => 2 | 36 => 2 | _ => 0
  | _ => 0
/-- the kind of what a constant reference leads to; of arrays of references: place by place -/
def q_rk (k f : Nat) : Nat := match k with
  | 1 => match f with | 0 => 6 | 1 => 2 | 2 => 3 | 3 => 8 | 8 => 5 | 10 => 5 | _ => 0
  | 2 => match f with | 0 => 5 | 1 => 5 | 2 => 5 | 3 => 5 | 4 => 5 | 5 => 5 | 6 => 5 | _ => 0
  | 3 => match f with | 2 => 5 | 3 => 5 | 4 => 5 | 5 => 5 | _ => 0
  | 4 => match f with | 8 => 8 | 9 => 5 | _ => 0
  | 5 => match f with | 0 => 20 | _ => 0
  | 6 => match f with | 5 => 5 | 6 => 5 | 7 => 5 | _ => 0
  | 7 => match f with | 7 => 5 | _ => 0
  | 8 => match f with | 3 => 5 | 4 => 5 | 5 => 5 | 6 => 5 | 7 => 5 | _ => 0
  | 9 => match f with | 8 => 1 | 11 => 5 | _ => 0
  | 10 => match f with | 2 => 21 | _ => 0
  | 11 => match f with | 3 => 23 | 4 => 22 | 8 => 1 | 9 => 1 | 10 => 24 | 12 => 9 | 13 => 4 | 14 => 7 | 15 => 7 | _ => 0
  | 12 => match f with | 4 => 30 | 5 => 31 | 6 => 32 | 7 => 33 | 20 => 34 | 21 => 35 | 22 => 36 | 23 => 37 | 28 => 39 | 29 => 40 | 32 => 38 | 36 => 41 | _ => 0
  | 23 => match f with | 0 => 10 | 1 => 10 | 2 => 10 | 3 => 10 | _ => 0
  | 24 => match f with | 0 => 1 | 1 => 1 | 2 => 1 | _ => 0
  | _ => 0
/-- what an array of kind k is of: 0 byte, 1 int, 2 long, 3 trays, 4 games -/
def q_et (k : Nat) : Nat := match k with
  | 20 => 1 | 21 => 2 | 22 => 0 | 23 => 3 | 24 => 4 | 30 => 1 | 31 => 1 | 32 => 2 | 33 => 0 | 34 => 1 | 35 => 1 | 36 => 1 | 37 => 2 | 38 => 1 | 39 => 1 | 40 => 1 | 41 => 1 | _ => 1
/-- an array kind's one length (0: lengths differ) -/
def q_ll (k : Nat) : Nat := match k with
  | 21 => 60 | 23 => 4 | 24 => 3 | 30 => 4 | 31 => 4 | 32 => 240 | 33 => 900 | 34 => 4650 | 35 => 654 | 36 => 60 | 37 => 30 | 38 => 10 | 39 => 10 | 40 => 4 | 41 => 5 | _ => 0
/-- what may stand in an int cell -/
def q_full : Int × Int := (-2147483648, 2147483647)
def q_bn (k f : Nat) : Int × Int := match k with
  | 1 => match f with | 7 => (0, 1) | _ => q_full
  | 4 => match f with | 2 => (0, 2147483647) | 3 => (0, 2147483647) | _ => q_full
  | 6 => match f with | 0 => (-2147483648, 10) | 3 => (-2147483648, 4) | _ => q_full
  | 7 => match f with | 5 => (0, 1) | _ => q_full
  | 8 => match f with | 0 => (0, 1) | _ => q_full
  | 9 => match f with | 2 => (0, 2147483647) | 3 => (0, 2147483647) | 9 => (0, 1) | 10 => (0, 1) | _ => q_full
  | 10 => match f with | 0 => (0, 3) | 1 => (-1, 60) | _ => q_full
  | 11 => match f with | 5 => (0, 900) | 11 => (0, 3) | 16 => (0, 1) | _ => q_full
  | 12 => match f with | 8 => (0, 900) | 24 => (0, 3) | 25 => (0, 1) | 26 => (0, 1) | 37 => (0, 1) | 38 => (0, 1) | _ => q_full
  | 30 => (0, 3)
  | 31 => (-1, 60)
  | _ => q_full
/-- how well a cell is kept: 1 the trays' forms, the tape's length, the marks' number; 2 the model's tables, names and what was played; 3 what it has read of a text; 9 all others -/
def q_cl (k f : Nat) : Nat := match k with
  | 10 => match f with | 0 => 1 | 1 => 1 | _ => 9
  | 11 => match f with | 5 => 1 | 11 => 1 | _ => 9
  | 12 => match f with | 8 => 1 | 24 => 1 | 9 => 3 | 12 => 3 | 13 => 3 | 14 => 3 | 15 => 3 | 16 => 3 | 17 => 3 | 18 => 3 | 27 => 3 | 25 => 3 | 26 => 3 | _ => 9
  | 30 => 1
  | 31 => 1
  | 34 => 2
  | _ => 9
def q_fvk (X : XW) (σ : ST) (k a f : Nat) : Value := match q_ft k f with
  | 0 => .int (σ.1 a f)
  | 1 => .long (σ.2.1 a f)
  | 2 => .ref (q_rf X a f)
  | _ => .ref (σ.2.2 a)
def q_av (X : XW) (σ : ST) (k a j : Nat) : Value := match q_et k with
  | 0 => .int (σ.1 a j)
  | 1 => .int (σ.1 a j)
  | 2 => .long (σ.2.1 a j)
  | _ => .ref (q_rf X a j)
def q_cf (X : XW) (σ : ST) (a : Nat) (H : Heap) : Prop :=
  (q_kd X a < 20 → ∃ r : vw_C, vwCl[q_kd X a - 1]? = some r ∧ t_OB a ((q_gD X).1 (q_kd X a - 1)) r.2.2 ((q_gD X).2 (q_kd X a - 1)) H (q_fvk X σ (q_kd X a) a)) ∧
  (20 ≤ q_kd X a → H[a]? = some (arrV (q_gA X (q_et (q_kd X a))) (q_ln X a) (q_av X σ (q_kd X a) a)))
def q_R (X : XW) (σ : ST) (H : Heap) : Prop := ∀ a, q_kd X a ≠ 0 → q_cf X σ a H
def q_in (b : Int × Int) (v : Int32) : Prop := b.1 ≤ v.toInt ∧ v.toInt ≤ b.2
def q_B (X : XW) (σ : ST) : Prop := ∀ a f, q_in (q_bn (q_kd X a) f) (σ.1 a f)
def q_TT (X : XW) (σ : ST) : Prop := ∀ a, q_kd X a = 4 ∨ q_kd X a = 9 → q_kd X (σ.2.2 a) = 22
def q_T (X : XW) : Prop := (∀ a f, q_rk (q_kd X a) f ≠ 0 → q_kd X (q_rf X a f) = q_rk (q_kd X a) f) ∧ (∀ a, q_ll (q_kd X a) ≠ 0 → q_ln X a = q_ll (q_kd X a)) ∧ (∀ a, q_ln X a < 1000000) ∧ ∀ a, q_kd X a = 11 → q_ln X (q_rf X a 4) = 900
def q_K (n : Nat) (X : XW) (σ σ' : ST) : Prop := ∀ a f, q_cl (q_kd X a) f ≤ n → σ'.1 a f = σ.1 a f
def q_reg (X : XW) : Nat → Prop := fun a => q_kd X a ≠ 0
def q_I (X : XW) (n : Nat) (σ0 : ST) (H0 : Heap) (locs : List Loc) (σ : ST) (H : Heap) : Prop := q_T X ∧ q_R X σ H ∧ q_B X σ ∧ q_TT X σ ∧ va_S (q_reg X) H0 H locs ∧ q_K n X σ0 σ
def q_tys (X : XW) : List (ClassId × FieldType) := [(q_gA X 0, .byte), (q_gA X 1, .int), (q_gA X 2, .long), (q_gA X 3, .object "CheatHeap$Tray"), (q_gA X 4, .object "CheatHeap$Game")]
/-! String constants, links of nest mates -/
def q_slen : List Nat := [5, 4, 3, 2, 4, 4, 4, 6, 105, 4, 6, 4, 2, 3, 4, 4, 4, 4, 5, 4, 5, 3]
def q_sbyt : List (List Int32) := [[107, 105, 110, 100, 115], [101, 97, 99, 104], [108, 97, 119], [117, 112], [100, 111, 119, 110], [115, 97, 109, 101], [109, 111, 115, 116], [112, 108, 97, 121, 101, 114], [107, 105, 110, 100, 115, 32, 101, 97, 99, 104, 32, 108, 97, 119, 32, 109, 111, 115, 116, 32, 112, 108, 97, 121, 101, 114, 32, 108, 105, 101, 115, 32, 100, 111, 117, 98, 116, 115, 32, 104, 97, 110, 100, 32, 111, 102, 32, 117, 112, 32, 100, 111, 119, 110, 32, 115, 97, 109, 101, 32, 116, 117, 114, 110, 32, 119, 104, 101, 110, 32, 99, 97, 114, 100, 115, 32, 104, 101, 97, 112, 32, 119, 111, 110, 32, 115, 104, 111, 119, 110, 32, 108, 111, 111, 112, 32, 101, 110, 100, 32, 115, 116, 111, 112, 32], [108, 105, 101, 115], [100, 111, 117, 98, 116, 115], [104, 97, 110, 100], [111, 102], [101, 110, 100], [116, 117, 114, 110], [115, 116, 111, 112], [108, 111, 111, 112], [119, 104, 101, 110], [99, 97, 114, 100, 115], [104, 101, 97, 112], [115, 104, 111, 119, 110], [119, 111, 110]]
def q_str : List (String × Nat × String × Nat) := [("CheatHeap$TableReader", 55, "kinds", 0), ("CheatHeap$TableReader", 65, "each", 1), ("CheatHeap$TableReader", 80, "law", 2), ("CheatHeap$TableReader", 110, "up", 3), ("CheatHeap$TableReader", 114, "down", 4), ("CheatHeap$TableReader", 116, "same", 5), ("CheatHeap$TableReader", 88, "most", 6), ("CheatHeap$TableReader", 93, "player", 7), ("CheatHeap$Reader", 68, "kinds each law most player lies doubts hand of up down same turn when cards heap won shown loop end stop ", 8), ("CheatHeap$TableReader", 134, "lies", 9), ("CheatHeap$TableReader", 149, "doubts", 10), ("CheatHeap$TableReader", 98, "hand", 11), ("CheatHeap$TableReader", 162, "of", 12), ("CheatHeap$RoundReader", 41, "end", 13), ("CheatHeap$RoundReader", 100, "turn", 14), ("CheatHeap$RoundReader", 102, "lies", 9), ("CheatHeap$RoundReader", 104, "doubts", 10), ("CheatHeap$RoundReader", 106, "stop", 15), ("CheatHeap$RoundReader", 108, "loop", 16), ("CheatHeap$RoundReader", 110, "when", 17), ("CheatHeap$RoundReader", 112, "cards", 18), ("CheatHeap$RoundReader", 117, "heap", 19), ("CheatHeap$RoundReader", 119, "shown", 20), ("CheatHeap$RoundReader", 121, "won", 21)]
def q_nest : List (String × Nat × MethodName × String) := [("CheatHeap", 41, ⟨"CheatHeap$Game", "<init>", "()V"⟩, "CheatHeap"), ("CheatHeap$Game", 11, ⟨"CheatHeap$Rules", "<init>", "()V"⟩, "CheatHeap"), ("CheatHeap$Game", 20, ⟨"CheatHeap$Hands", "<init>", "()V"⟩, "CheatHeap"), ("CheatHeap$Game", 27, ⟨"CheatHeap$Pile", "<init>", "()V"⟩, "CheatHeap"), ("CheatHeap$Game", 34, ⟨"CheatHeap$Script", "<init>", "()V"⟩, "CheatHeap"), ("CheatHeap", 58, ⟨"CheatHeap$TableReader", "<init>", "()V"⟩, "CheatHeap"), ("CheatHeap$TableReader", 3, ⟨"CheatHeap$Reader", "<init>", "()V"⟩, "CheatHeap"), ("CheatHeap$TableReader", 11, ⟨"CheatHeap$Game", "<init>", "()V"⟩, "CheatHeap"), ("CheatHeap", 65, ⟨"CheatHeap$RoundReader", "<init>", "()V"⟩, "CheatHeap"), ("CheatHeap$RoundReader", 3, ⟨"CheatHeap$Reader", "<init>", "()V"⟩, "CheatHeap"), ("CheatHeap$RoundReader", 11, ⟨"CheatHeap$Script", "<init>", "()V"⟩, "CheatHeap"), ("CheatHeap", 72, ⟨"CheatHeap$Run", "<init>", "()V"⟩, "CheatHeap"), ("CheatHeap", 84, ⟨"CheatHeap$Tray", "<init>", "()V"⟩, "CheatHeap"), ("CheatHeap$Game", 165, ⟨"CheatHeap", "waysToTake", "(II)J"⟩, "CheatHeap")]
def q_SR (X : XW) (U : State) : Prop := ∀ r ∈ q_str, vk_R r.1 r.2.1 r.2.2.1 (q_sk X r.2.2.2) U
def q_NW (U : State) : Prop := ∀ r ∈ q_nest, va_Nw (.methodLinkNest r.1 r.2.1 r.2.2.1 r.2.2.2) U
/-- private methods of a class above are what their own calls select -/
def q_extra : List Cond := [.selects RX4 yX3_endOfRun yX3_endOfRun, .selects RX9 yX3_endOfRun yX3_endOfRun, .selects RX4 yX3_isReserved yX3_isReserved, .selects RX9 yX3_isReserved yX3_isReserved]
def q_tbl : List Cond := q_extra ++ lw_tbl.filter goodWord
def q_KX (X : XW) (U : State) : Prop := va_K (q_gD X) vwCl (q_tys X) U ∧ q_NW U ∧ q_SR X U
def q_SW (X : XW) (U : State) (H : Heap) : Prop := vk_S 22 q_slen q_sbyt (q_sk X) (q_sv X) (q_reg X) U H ∧ va_Z "java/lang/String" "COMPACT_STRINGS" "Z" (.int 1) (q_reg X) U H ∧ va_Zq "jdk/internal/util/Preconditions" "SIOOBE_FORMATTER" "Ljava/util/function/BiFunction;" (q_reg X) U H
def q_Pre (X : XW) (σ : ST) (U : State) : Prop := q_T X ∧ q_R X σ U.heap ∧ q_B X σ ∧ q_TT X σ ∧ q_KX X U ∧ q_SW X U U.heap
def q_Post (X : XW) (n : Nat) (σ σ' : ST) (H : Heap) : Prop := q_R X σ' H ∧ q_B X σ' ∧ q_TT X σ' ∧ q_K n X σ σ'
def q_E (p : Program) (c : Code) (cc : ByteArray) (s : State) (m : MethodId) (args : Array Value) (own : String) (X : XW) : Prop :=
  p.tables.exec = Jvm.exec ∧ c.code = cc ∧ s.vm.findClass own = some m.cls ∧ (∀ w ∈ q_tbl, w.before args s = true) ∧ q_KX X s ∧ q_SW X s s.heap
def q_ws (y : MethodName) (cc : ByteArray) (mL : Nat) (ret : Option FieldType) : List Cond := Cond.code y cc mL ret :: q_tbl
def q_rm (f w : Nat) : Room := { frames := f, cells := 0, slots := 0, locals := w }
/-! the state, one cell changed -/
def q_si (σ : ST) (a f : Nat) (v : Int32) : ST := (fun b g => if b = a ∧ g = f then v else σ.1 b g, σ.2)
def q_sl (σ : ST) (a f : Nat) (v : Int64) : ST := (σ.1, (fun b g => if b = a ∧ g = f then v else σ.2.1 b g, σ.2.2))
def q_st (σ : ST) (a v : Nat) : ST := (σ.1, (σ.2.1, fun b => if b = a then v else σ.2.2 b))
theorem q_full_in (v : Int32) : q_in q_full v := ⟨by have := Int32.le_toInt v; simp [q_full]; omega, by have := Int32.toInt_lt v; simp [q_full]; omega⟩
theorem q_inU {k f : Nat} {v : Int32} (h : q_bn k f = q_full) : q_in (q_bn k f) v := by rw [h]; exact q_full_in v
theorem q_inB {k f : Nat} {v : Int32} {lo hi : Int} (h : q_bn k f = (lo, hi)) (h1 : lo ≤ v.toInt) (h2 : v.toInt ≤ hi) : q_in (q_bn k f) v := by rw [h]; exact ⟨h1, h2⟩
theorem q_rng (v : Int32) : -2147483648 ≤ v.toInt ∧ v.toInt ≤ 2147483647 := ⟨(q_full_in v).1, (q_full_in v).2⟩
theorem q_K.rf {n : Nat} {X : XW} {σ : ST} : q_K n X σ σ := fun _ _ _ => rfl
theorem q_K.tr {n : Nat} {X : XW} {σ σ' σ'' : ST} (h : q_K n X σ σ') (h2 : q_K n X σ' σ'') : q_K n X σ σ'' := fun a f q => (h2 a f q).trans (h a f q)
theorem q_K.le {n n' : Nat} {X : XW} {σ σ' : ST} (h : q_K n X σ σ') (hn : n' ≤ n) : q_K n' X σ σ' := fun a f q => h a f (Nat.le_trans q hn)
theorem q_K.si {n : Nat} {X : XW} {σ : ST} {a k f : Nat} {v : Int32} (ha : q_kd X a = k) (h : n < q_cl k f) : q_K n X σ (q_si σ a f v) := by
  intro b g q
  show (if b = a ∧ g = f then v else σ.1 b g) = _
  rw [if_neg]
  rintro ⟨rfl, rfl⟩
  rw [ha] at q
  omega
theorem q_fv_si {X : XW} {σ : ST} {k a f : Nat} {v : Int32} (hf : q_ft k f = 0) (g : Nat) : updV (q_fvk X σ k a) f (.int v) g = q_fvk X (q_si σ a f v) k a g := by
  unfold updV
  by_cases hg : g = f
  · subst hg
    rw [if_pos rfl]
    unfold q_fvk q_si
    rw [hf]
    simp
  · rw [if_neg hg]
    unfold q_fvk q_si
    simp [hg]
theorem q_fv_sl {X : XW} {σ : ST} {k a f : Nat} {v : Int64} (hf : q_ft k f = 1) (g : Nat) : updV (q_fvk X σ k a) f (.long v) g = q_fvk X (q_sl σ a f v) k a g := by
  unfold updV
  by_cases hg : g = f
  · subst hg
    rw [if_pos rfl]
    unfold q_fvk q_sl
    rw [hf]
    simp
  · rw [if_neg hg]
    unfold q_fvk q_sl
    simp [hg]
theorem q_fv_st {X : XW} {σ : ST} {k a v : Nat} (hf : ∀ g, q_ft k g = 3 ↔ g = 0) (h3 : ∀ g, q_ft k g ≤ 3) (g : Nat) : updV (q_fvk X σ k a) 0 (.ref v) g = q_fvk X (q_st σ a v) k a g := by
  unfold updV
  by_cases hg : g = 0
  · subst hg
    rw [if_pos rfl]
    unfold q_fvk q_st
    rw [(hf 0).mpr rfl]
    simp
  · rw [if_neg hg]
    have h1 : q_ft k g ≠ 3 := fun h => hg ((hf g).mp h)
    have h2 := h3 g
    unfold q_fvk q_st
    generalize q_ft k g = z at h1 h2
    match z, h1, h2 with
    | 0, _, _ => rfl
    | 1, _, _ => rfl
    | 2, _, _ => rfl
    | 3, h1, _ => exact absurd rfl h1
theorem q_cf.ne {X : XW} {σ σ' : ST} {b : Nat} {H H1 : Heap} (h : q_cf X σ b H) (e1 : ∀ g, σ'.1 b g = σ.1 b g) (e2 : ∀ g, σ'.2.1 b g = σ.2.1 b g) (e3 : σ'.2.2 b = σ.2.2 b) (hq : H1[b]? = H[b]?) : q_cf X σ' b H1 := by
  have f1 : q_fvk X σ' (q_kd X b) b = q_fvk X σ (q_kd X b) b := by
    funext g
    unfold q_fvk
    rw [e1, e2, e3]
  have f2 : q_av X σ' (q_kd X b) b = q_av X σ (q_kd X b) b := by
    funext g
    unfold q_av
    rw [e1, e2]
  refine ⟨fun hk => ?_, fun hk => ?_⟩
  · obtain ⟨r, h1, h2⟩ := h.1 hk
    refine ⟨r, h1, ?_⟩
    rw [f1]
    exact h2.kept hq
  · rw [f2, hq]
    exact h.2 hk
theorem q_R.kept {X : XW} {σ : ST} {H H1 : Heap} (h : q_R X σ H) (hq : ∀ a, q_kd X a ≠ 0 → H1[a]? = H[a]?) : q_R X σ H1 := fun a ha => (h a ha).ne (fun _ => rfl) (fun _ => rfl) rfl (hq a ha)
theorem q_R.lt {X : XW} {σ : ST} {H : Heap} (h : q_R X σ H) {a : Nat} (ha : q_kd X a ≠ 0) : a < H.size := by
  rcases Nat.lt_or_ge (q_kd X a) 20 with hk | hk
  · obtain ⟨r, -, cell, h2, -⟩ := (h a ha).1 hk
    exact (Array.getElem?_eq_some_iff.mp h2).1
  · exact (Array.getElem?_eq_some_iff.mp ((h a ha).2 hk)).1
/-- what a constant reference leads to -/
theorem q_tk {X : XW} {n : Nat} {σ0 σ : ST} {H0 H : Heap} {locs : List Loc} (hI : q_I X n σ0 H0 locs σ H) {a k f k' : Nat} (ha : q_kd X a = k) (h : q_rk k f = k') (h0 : k' ≠ 0) : q_kd X (q_rf X a f) = k' := by
  have h1 := hI.1.1 a f (by rw [ha, h]; exact h0)
  rw [h1, ha, h]
theorem q_txk {X : XW} {n : Nat} {σ0 σ : ST} {H0 H : Heap} {locs : List Loc} (hI : q_I X n σ0 H0 locs σ H) {a : Nat} (ha : q_kd X a = 4 ∨ q_kd X a = 9) : q_kd X (σ.2.2 a) = 22 := hI.2.2.2.1 a ha
theorem q_lnk {X : XW} {n : Nat} {σ0 σ : ST} {H0 H : Heap} {locs : List Loc} (hI : q_I X n σ0 H0 locs σ H) {a k v : Nat} (ha : q_kd X a = k) (h : q_ll k = v) (h0 : v ≠ 0) : q_ln X a = v := by
  have h1 := hI.1.2.1 a (by rw [ha, h]; exact h0)
  rw [h1, ha, h]
theorem q_bd {X : XW} {n : Nat} {σ0 σ : ST} {H0 H : Heap} {locs : List Loc} (hI : q_I X n σ0 H0 locs σ H) {a k f : Nat} {lo hi : Int} (ha : q_kd X a = k) (h : q_bn k f = (lo, hi)) : lo ≤ (σ.1 a f).toInt ∧ (σ.1 a f).toInt ≤ hi := by
  have h1 := hI.2.2.1 a f
  rw [ha, h] at h1
  exact h1
theorem q_ln11 {X : XW} {n : Nat} {σ0 σ : ST} {H0 H : Heap} {locs : List Loc} (hI : q_I X n σ0 H0 locs σ H) {a : Nat} (ha : q_kd X a = 11) : q_ln X (q_rf X a 4) = 900 := hI.1.2.2.2 a ha
theorem q_bdR {X : XW} {n : Nat} {σ0 σ : ST} {H0 H : Heap} {locs : List Loc} (hI : q_I X n σ0 H0 locs σ H) {a f : Nat} {lo hi : Int} (ha : q_kd X a = 4 ∨ q_kd X a = 9) (h4 : q_bn 4 f = (lo, hi)) (h9 : q_bn 9 f = (lo, hi)) : lo ≤ (σ.1 a f).toInt ∧ (σ.1 a f).toInt ≤ hi := by
  rcases ha with ha | ha
  · exact q_bd hI ha h4
  · exact q_bd hI ha h9
end
/-! FROM 03.rows.lean.txt -/
section
section QR
variable {p : Program} {l : Launch} {e : Env} {R : Room} {s : State} {m : MethodId} {args : Array Value} {below : List Frame} {meth : Method} {c : Code} {H : Heap} {locs : List Loc} {cells slots : Nat} {Q : State → Prop} {cc : ByteArray} {own : String} {X : XW} {n : Nat} {σ0 σ : ST} {H0 : Heap} {pc : Nat} {ls : Array Slot} {rest : List Value} {a k f : Nat}
theorem q_kx_ty {U : State} (hK : va_K (q_gD X) vwCl (q_tys X) U) {t : Nat} {ty : FieldType} (h : (q_tys X)[t]? = some (q_gA X t, ty)) : ArrOfT U (q_gA X t) ty := (hK.2 t _ h).1
theorem q_obj (hI : q_I X n σ0 H0 locs σ H) (ha : q_kd X a = k) {ci N : Nat} {C : String} {T : u_T} (hk : k = ci + 1 ∧ k < 20) (hc : vwCl[ci]? = some (C, T, N)) : t_OB a ((q_gD X).1 ci) N ((q_gD X).2 ci) H (q_fvk X σ k a) := by
  obtain ⟨rfl, h20⟩ := hk
  obtain ⟨r, h1, h2⟩ := (hI.2.1 a (by omega)).1 (by omega)
  rw [ha] at h1 h2
  have hr : r = (C, T, N) := Option.some.inj (h1.symm.trans hc)
  subst hr
  exact h2
theorem q_arr (hI : q_I X n σ0 H0 locs σ H) (ha : q_kd X a = k) (hk : 20 ≤ k) : H[a]? = some (arrV (q_gA X (q_et k)) (q_ln X a) (q_av X σ k a)) := by
  have h := (hI.2.1 a (by omega)).2 (by omega)
  rw [ha] at h
  exact h
/-- getfield -/
theorem q_getf (E : q_E p c cc s m args own X) (hI : q_I X n σ0 H0 locs σ H) (ha : q_kd X a = k) {ci N index : Nat} {C ref : String} {T : u_T} {v : Value} (hk : k = ci + 1 ∧ k < 20) (hc : vwCl[ci]? = some (C, T, N)) (hin : ∀ w ∈ u_ws C T N, w ∈ q_tbl) (hf : f < N)
    (hlink : Cond.fieldLink own index ref (T f).2.1 (T f).2.2.1 ∈ q_tbl) (hsame : ref = (T f).1 ∨ Cond.sameField ref (T f).1 (T f).2.1 (T f).2.2.1 ∈ q_tbl) (hv : q_fvk X σ k a f = v) (hdg : decode cc pc = .ok (.getfield index, 3))
    (kk : W p l e R s m args below meth c H locs cells slots Q (F0 m (pc + 3) ls (v :: rest))) : W p l e R s m args below meth c H locs cells slots Q (F0 m pc ls (.ref a :: rest)) := by
  obtain ⟨hx, hb, hown, hts, ⟨hK, -, -⟩, -⟩ := E
  obtain ⟨cell, q1, q2, q3, q4⟩ := q_obj hI ha hk hc
  obtain ⟨hS, hfc, kC, hkC, hkind⟩ := hK.1 ci _ hc
  obtain ⟨cf, kf, fi, fd, hi, hsl⟩ := hS f hf
  have hi' : s.fieldFound? ref (T f).2.1 (T f).2.2.1 = some (cf, kf, fi, fd) := by
    rcases hsame with h | h
    · rw [h]; exact hi
    · exact u_same (hts _ h) _ hi
  refine W.getf hx hb hown (hts _ hlink) hi' (u_facts hfc hkC (u_lays hts hin hf) hi).1 q1 (by rw [q3]; exact fun h => by cases h) (v := v) ?_ rfl rfl hdg kk
  rw [hsl, q4 f hf, hv]
/-- a cell of the world written -/
theorem q_R.up {σ' : ST} {H1 : Heap} (h : q_R X σ H) (oq : ∀ q : Nat, q ≠ a → H1[q]? = H[q]?) (h1 : q_cf X σ' a H1) (e1 : ∀ b g, b ≠ a → σ'.1 b g = σ.1 b g) (e2 : ∀ b g, b ≠ a → σ'.2.1 b g = σ.2.1 b g) (e3 : ∀ b, b ≠ a → σ'.2.2 b = σ.2.2 b) : q_R X σ' H1 := by
  intro b hb
  by_cases hba : b = a
  · subst hba; exact h1
  · exact (h b hb).ne (fun g => e1 b g hba) (fun g => e2 b g hba) (e3 b hba) (oq b hba)
theorem q_B.si {v : Int32} (h : q_B X σ) (ha : q_kd X a = k) (hv : q_in (q_bn k f) v) : q_B X (q_si σ a f v) := by
  intro b g
  show q_in _ (if b = a ∧ g = f then v else σ.1 b g)
  by_cases hq : b = a ∧ g = f
  · rw [if_pos hq]
    obtain ⟨rfl, rfl⟩ := hq
    rw [ha]
    exact hv
  · rw [if_neg hq]
    exact h b g
/-- putfield of an object, the new value as the state says -/
theorem q_putf (E : q_E p c cc s m args own X) (hI : q_I X n σ0 H0 locs σ H) (ha : q_kd X a = k) {ci N index : Nat} {C ref : String} {T : u_T} {ty0 : Nat → FieldType} {v : Value} (hk : k = ci + 1 ∧ k < 20) (hc : vwCl[ci]? = some (C, T, N)) (hin : ∀ w ∈ u_ws C T N, w ∈ q_tbl) (hty : ∀ k, k < N → parseFieldDescriptor (T k).2.2.1 = some (ty0 k)) (hnm : ∀ a, a < N → ∀ b, b < N → a ≠ b → (T a).2.1 ≠ (T b).2.1) (hf : f < N)
    (hlink : Cond.fieldLink own index ref (T f).2.1 (T f).2.2.1 ∈ q_tbl) (hsame : ref = (T f).1 ∨ Cond.sameField ref (T f).1 (T f).2.1 (T f).2.2.1 ∈ q_tbl) (hfin : (T f).2.2.2 = false) {ty : FieldType} (hd : parseFieldDescriptor (T f).2.2.1 = some ty) (hn : narrow ty v = v) (hfit : fits ty v = true)
    {σ1 : ST} (hup : ∀ g, g < N → updV (q_fvk X σ k a) f v g = q_fvk X σ1 k a g) (e1 : ∀ b g, b ≠ a → σ1.1 b g = σ.1 b g) (e2 : ∀ b g, b ≠ a → σ1.2.1 b g = σ.2.1 b g) (e3 : ∀ b, b ≠ a → σ1.2.2 b = σ.2.2 b) (hB : q_B X σ1) (hTT : q_TT X σ1) (hKp : q_K n X σ σ1)
    (hdg : decode cc pc = .ok (.putfield index, 3))
    (kk : ∀ (H1 : Heap) (locs1 : List Loc), q_I X n σ0 H0 locs1 σ1 H1 → W p l e R s m args below meth c H1 locs1 cells slots Q (F0 m (pc + 3) ls rest)) : W p l e R s m args below meth c H locs cells slots Q (F0 m pc ls (v :: .ref a :: rest)) := by
  obtain ⟨hx, hb, hown, hts, ⟨hK, -, -⟩, -⟩ := E
  obtain ⟨cell, q1, q2, q3, q4⟩ := q_obj hI ha hk hc
  have hap := va_apart (own := own) hts hin ty0 hty hnm hK hc
  obtain ⟨hS, hfc, kC, hkC, hkind⟩ := hK.1 ci _ hc
  obtain ⟨cf, kf, fi, fd, hi, hsl⟩ := hS f hf
  have hi' : s.fieldFound? ref (T f).2.1 (T f).2.2.1 = some (cf, kf, fi, fd) := by
    rcases hsame with h | h
    · rw [h]; exact hi
    · exact u_same (hts _ h) _ hi
  have hlay := hts _ (hin _ (u_in_lay hf))
  unfold u_lay at hlay
  rw [if_neg (by rw [hfin]; decide)] at hlay
  have hst := (u_facts hfc hkC (u_lays hts hin hf) hi).1
  have h6 := u_store hfc hkC hkind hlay hi hd hn hfit
  refine W.putK hx hb (f := fd) ⟨hown, hts _ hlink, ⟨_, _, _, hi'⟩, hst⟩ (by rw [q2]; exact h6) q1 q3 (by rw [hsl]; exact k2_hasslot (q4 f hf)) rfl rfl hdg fun H' g1 g2 g3 => ?_
  rw [hsl] at g1 ⊢
  obtain ⟨i1, i2, i3, i4, i5, i6⟩ := hI
  obtain ⟨rfl, h20⟩ := hk
  refine kk H' _ ⟨i1, i2.up g3 ⟨fun _ => ?_, fun h => absurd h (by omega)⟩ e1 e2 e3, hB, hTT, i5.put g2 g3 (by show q_kd X a ≠ 0; omega), i6.tr hKp⟩
  rw [ha]
  refine ⟨_, hc, ?_⟩
  exact t_OB.to (V := updV (q_fvk X σ (ci + 1) a) f v) ⟨_, g1, q2, q3, t_set q4 hap hf v⟩ hup
theorem q_nar0 {ty : FieldType} {v : Int32} (h : ty = .int ∨ (ty = .boolean ∧ 0 ≤ v.toInt ∧ v.toInt ≤ 1)) : narrow ty (.int v) = .int v ∧ fits ty (.int v) = true := by
  rcases h with rfl | ⟨rfl, h1, h2⟩
  · exact ⟨rfl, rfl⟩
  · have h3 : v = 0 ∨ v = 1 := by
      rcases (show v.toInt = 0 ∨ v.toInt = 1 by omega) with h | h
      · exact Or.inl (Int32.toInt_inj.mp (by rw [h]; rfl))
      · exact Or.inr (Int32.toInt_inj.mp (by rw [h]; rfl))
    rcases h3 with rfl | rfl <;> exact ⟨rfl, rfl⟩
/-- putfield of an int or boolean -/
theorem q_puti (E : q_E p c cc s m args own X) (hI : q_I X n σ0 H0 locs σ H) (ha : q_kd X a = k) {ci N index : Nat} {C ref : String} {T : u_T} {ty0 : Nat → FieldType} {v : Int32} (hk : k = ci + 1 ∧ k < 20) (hc : vwCl[ci]? = some (C, T, N)) (hin : ∀ w ∈ u_ws C T N, w ∈ q_tbl) (hty : ∀ k, k < N → parseFieldDescriptor (T k).2.2.1 = some (ty0 k)) (hnm : ∀ a, a < N → ∀ b, b < N → a ≠ b → (T a).2.1 ≠ (T b).2.1) (hf : f < N)
    (hlink : Cond.fieldLink own index ref (T f).2.1 (T f).2.2.1 ∈ q_tbl) (hsame : ref = (T f).1 ∨ Cond.sameField ref (T f).1 (T f).2.1 (T f).2.2.1 ∈ q_tbl) (hfin : (T f).2.2.2 = false) (hft : q_ft k f = 0) (hcl : n < q_cl k f) (hdg : decode cc pc = .ok (.putfield index, 3))
    (hv : q_in (q_bn k f) v) (hn : ty0 f = .int ∨ (ty0 f = .boolean ∧ 0 ≤ v.toInt ∧ v.toInt ≤ 1))
    (kk : ∀ (H1 : Heap) (locs1 : List Loc), q_I X n σ0 H0 locs1 (q_si σ a f v) H1 → W p l e R s m args below meth c H1 locs1 cells slots Q (F0 m (pc + 3) ls rest)) : W p l e R s m args below meth c H locs cells slots Q (F0 m pc ls (.int v :: .ref a :: rest)) := by
  refine q_putf E hI ha hk hc hin hty hnm hf hlink hsame hfin (hty f hf) (q_nar0 hn).1 (q_nar0 hn).2 (fun g _ => q_fv_si hft g) (fun b g hb => ?_) (fun _ _ _ => rfl) (fun _ _ => rfl) (hI.2.2.1.si ha hv) hI.2.2.2.1 (q_K.si ha hcl) hdg kk
  show (if b = a ∧ g = f then v else σ.1 b g) = _
  rw [if_neg (fun h => hb h.1)]
/-- putfield of a long -/
theorem q_putl (E : q_E p c cc s m args own X) (hI : q_I X n σ0 H0 locs σ H) (ha : q_kd X a = k) {ci N index : Nat} {C ref : String} {T : u_T} {ty0 : Nat → FieldType} {v : Int64} (hk : k = ci + 1 ∧ k < 20) (hc : vwCl[ci]? = some (C, T, N)) (hin : ∀ w ∈ u_ws C T N, w ∈ q_tbl) (hty : ∀ k, k < N → parseFieldDescriptor (T k).2.2.1 = some (ty0 k)) (hnm : ∀ a, a < N → ∀ b, b < N → a ≠ b → (T a).2.1 ≠ (T b).2.1) (hf : f < N)
    (hlink : Cond.fieldLink own index ref (T f).2.1 (T f).2.2.1 ∈ q_tbl) (hsame : ref = (T f).1 ∨ Cond.sameField ref (T f).1 (T f).2.1 (T f).2.2.1 ∈ q_tbl) (hfin : (T f).2.2.2 = false) (hft : q_ft k f = 1) (hty2 : ty0 f = .long) (hdg : decode cc pc = .ok (.putfield index, 3))
    (kk : ∀ (H1 : Heap) (locs1 : List Loc), q_I X n σ0 H0 locs1 (q_sl σ a f v) H1 → W p l e R s m args below meth c H1 locs1 cells slots Q (F0 m (pc + 3) ls rest)) : W p l e R s m args below meth c H locs cells slots Q (F0 m pc ls (.long v :: .ref a :: rest)) := by
  refine q_putf E hI ha hk hc hin hty hnm hf hlink hsame hfin (hty f hf) (by rw [hty2]; rfl) (by rw [hty2]; rfl) (fun g _ => q_fv_sl hft g) (fun _ _ _ => rfl) (fun b g hb => ?_) (fun _ _ => rfl) hI.2.2.1 hI.2.2.2.1 (fun _ _ _ => rfl) hdg kk
  show (if b = a ∧ g = f then v else σ.2.1 b g) = _
  rw [if_neg (fun h => hb h.1)]
/-- putfield of a reader's text -/
theorem q_putt (E : q_E p c cc s m args own X) (hI : q_I X n σ0 H0 locs σ H) (ha : q_kd X a = k) {ci N index : Nat} {C ref : String} {T : u_T} {ty0 : Nat → FieldType} {v : Nat} (hk : k = ci + 1 ∧ k < 20) (hk2 : k = 4 ∨ k = 9) (hc : vwCl[ci]? = some (C, T, N)) (hin : ∀ w ∈ u_ws C T N, w ∈ q_tbl) (hty : ∀ k, k < N → parseFieldDescriptor (T k).2.2.1 = some (ty0 k)) (hnm : ∀ a, a < N → ∀ b, b < N → a ≠ b → (T a).2.1 ≠ (T b).2.1) (hf : 0 < N)
    (hlink : Cond.fieldLink own index ref (T 0).2.1 (T 0).2.2.1 ∈ q_tbl) (hsame : ref = (T 0).1 ∨ Cond.sameField ref (T 0).1 (T 0).2.1 (T 0).2.2.1 ∈ q_tbl) (hfin : (T 0).2.2.2 = false) (hty2 : ty0 0 = .array .byte) (hv : q_kd X v = 22) (hdg : decode cc pc = .ok (.putfield index, 3))
    (kk : ∀ (H1 : Heap) (locs1 : List Loc), q_I X n σ0 H0 locs1 (q_st σ a v) H1 → W p l e R s m args below meth c H1 locs1 cells slots Q (F0 m (pc + 3) ls rest)) : W p l e R s m args below meth c H locs cells slots Q (F0 m pc ls (.ref v :: .ref a :: rest)) := by
  have hft : ∀ g, q_ft k g = 3 ↔ g = 0 := by
    intro g
    rcases hk2 with rfl | rfl
    · refine ⟨fun h => ?_, fun h => by rw [h]; rfl⟩
      change (match g with | 0 => 3 | 8 => 2 | 9 => 2 | _ => 0) = 3 at h
      split at h <;> first | rfl | cases h
    · refine ⟨fun h => ?_, fun h => by rw [h]; rfl⟩
      change (match g with | 0 => 3 | 8 => 2 | 11 => 2 | _ => 0) = 3 at h
      split at h <;> first | rfl | cases h
  have hft3 : ∀ g, q_ft k g ≤ 3 := by
    intro g
    unfold q_ft
    split <;> (try split) <;> decide
  refine q_putf (f := 0) E hI ha hk hc hin hty hnm hf hlink hsame hfin (hty 0 hf) (by rw [hty2]; rfl) (by rw [hty2]; rfl) (fun g _ => q_fv_st hft hft3 g) (fun _ _ _ => rfl) (fun _ _ _ => rfl) (fun b hb => ?_) hI.2.2.1 (fun b hb => ?_) (fun _ _ _ => rfl) hdg kk
  · show (if b = a then v else σ.2.2 b) = _
    rw [if_neg hb]
  · show q_kd X (if b = a then v else σ.2.2 b) = 22
    by_cases hq : b = a
    · rw [if_pos hq]; exact hv
    · rw [if_neg hq]; exact hI.2.2.2.1 b hb
/-! arrays -/
theorem q_iald (E : q_E p c cc s m args own X) (hI : q_I X n σ0 H0 locs σ H) (ha : q_kd X a = k) (hk : 20 ≤ k ∧ q_et k = 1) {i : Int32} (h0 : 0 ≤ i.toInt) (h1 : i.toInt < q_ln X a) (hdg : decode cc pc = .ok (.iaload, 1))
    (kk : W p l e R s m args below meth c H locs cells slots Q (F0 m (pc + 1) ls (.int (σ.1 a i.toNatClampNeg) :: rest))) : W p l e R s m args below meth c H locs cells slots Q (F0 m pc ls (.int i :: .ref a :: rest)) := by
  obtain ⟨hx, hb, hown, hts, ⟨hK, -, -⟩, -⟩ := E
  have hc := q_arr hI ha hk.1
  have hin : vp_in i (q_ln X a) := vp_in_iff.mpr ⟨h0, h1⟩
  have hlt : i.toNatClampNeg < q_ln X a := Nat.not_le.mp fun q => hin (Or.inr q)
  rw [hk.2] at hc
  exact W.iald (v := .int (σ.1 a i.toNatClampNeg)) hx hb hc (q_kx_ty hK (t := 1) rfl _ _) (fun q => by cases q) (by rw [arrV_size]; exact hin) (by rw [arrV_read _ _ hlt]; unfold q_av; rw [hk.2]; rfl) rfl rfl hdg kk
theorem q_lald (E : q_E p c cc s m args own X) (hI : q_I X n σ0 H0 locs σ H) (ha : q_kd X a = k) (hk : 20 ≤ k ∧ q_et k = 2) {i : Int32} (h0 : 0 ≤ i.toInt) (h1 : i.toInt < q_ln X a) (hdg : decode cc pc = .ok (.laload, 1))
    (kk : W p l e R s m args below meth c H locs cells slots Q (F0 m (pc + 1) ls (.long (σ.2.1 a i.toNatClampNeg) :: rest))) : W p l e R s m args below meth c H locs cells slots Q (F0 m pc ls (.int i :: .ref a :: rest)) := by
  obtain ⟨hx, hb, hown, hts, ⟨hK, -, -⟩, -⟩ := E
  have hc := q_arr hI ha hk.1
  have hin : vp_in i (q_ln X a) := vp_in_iff.mpr ⟨h0, h1⟩
  have hlt : i.toNatClampNeg < q_ln X a := Nat.not_le.mp fun q => hin (Or.inr q)
  rw [hk.2] at hc
  exact W.lald (v := .long (σ.2.1 a i.toNatClampNeg)) hx hb hc (q_kx_ty hK (t := 2) rfl _ _) (fun q => by cases q) (by rw [arrV_size]; exact hin) (by rw [arrV_read _ _ hlt]; unfold q_av; rw [hk.2]; rfl) rfl rfl hdg kk
theorem q_bald (E : q_E p c cc s m args own X) (hI : q_I X n σ0 H0 locs σ H) (ha : q_kd X a = k) (hk : 20 ≤ k ∧ q_et k = 0) {i : Int32} (h0 : 0 ≤ i.toInt) (h1 : i.toInt < q_ln X a) (hdg : decode cc pc = .ok (.baload, 1))
    (kk : W p l e R s m args below meth c H locs cells slots Q (F0 m (pc + 1) ls (.int (σ.1 a i.toNatClampNeg) :: rest))) : W p l e R s m args below meth c H locs cells slots Q (F0 m pc ls (.int i :: .ref a :: rest)) := by
  obtain ⟨hx, hb, hown, hts, ⟨hK, -, -⟩, -⟩ := E
  have hc := q_arr hI ha hk.1
  have hin : vp_in i (q_ln X a) := vp_in_iff.mpr ⟨h0, h1⟩
  have hlt : i.toNatClampNeg < q_ln X a := Nat.not_le.mp fun q => hin (Or.inr q)
  rw [hk.2] at hc
  exact W.bald (v := .int (σ.1 a i.toNatClampNeg)) hx hb hc (q_kx_ty hK (t := 0) rfl _ _) (fun q => by cases q) (by rw [arrV_size]; exact hin) (by rw [arrV_read _ _ hlt]; unfold q_av; rw [hk.2]; rfl) rfl rfl hdg kk
theorem q_aald (E : q_E p c cc s m args own X) (hI : q_I X n σ0 H0 locs σ H) (ha : q_kd X a = k) (hk : k = 23 ∨ k = 24) {i : Int32} (h0 : 0 ≤ i.toInt) (h1 : i.toInt < q_ln X a) (hdg : decode cc pc = .ok (.aaload, 1))
    (kk : W p l e R s m args below meth c H locs cells slots Q (F0 m (pc + 1) ls (.ref (q_rf X a i.toNatClampNeg) :: rest))) : W p l e R s m args below meth c H locs cells slots Q (F0 m pc ls (.int i :: .ref a :: rest)) := by
  obtain ⟨hx, hb, hown, hts, ⟨hK, -, -⟩, -⟩ := E
  have hin : vp_in i (q_ln X a) := vp_in_iff.mpr ⟨h0, h1⟩
  have hlt : i.toNatClampNeg < q_ln X a := Nat.not_le.mp fun q => hin (Or.inr q)
  rcases hk with rfl | rfl
  · exact W.aald (ty := .object "CheatHeap$Tray") (v := .ref (q_rf X a i.toNatClampNeg)) hx hb (q_arr hI ha (by decide)) (q_kx_ty hK (t := 3) rfl _ _) rfl (fun q => by cases q) (by rw [arrV_size]; exact hin) (by rw [arrV_read _ _ hlt]; rfl) rfl rfl hdg kk
  · exact W.aald (ty := .object "CheatHeap$Game") (v := .ref (q_rf X a i.toNatClampNeg)) hx hb (q_arr hI ha (by decide)) (q_kx_ty hK (t := 4) rfl _ _) rfl (fun q => by cases q) (by rw [arrV_size]; exact hin) (by rw [arrV_read _ _ hlt]; rfl) rfl rfl hdg kk
theorem q_alen (E : q_E p c cc s m args own X) (hI : q_I X n σ0 H0 locs σ H) (ha : q_kd X a = k) (hk : 20 ≤ k) {t : Nat} {ty : FieldType} (he : q_et k = t) (ht : (q_tys X)[t]? = some (q_gA X t, ty)) (hdg : decode cc pc = .ok (.arraylength, 1))
    (kk : ∀ z : Int32, z.toInt = (q_ln X a : Int) → W p l e R s m args below meth c H locs cells slots Q (F0 m (pc + 1) ls (.int z :: rest))) : W p l e R s m args below meth c H locs cells slots Q (F0 m pc ls (.ref a :: rest)) := by
  obtain ⟨hx, hb, hown, hts, ⟨hK, -, -⟩, -⟩ := E
  have hc := q_arr hI ha hk
  rw [he] at hc
  have hln := hI.1.2.2.1 a
  exact W.alen (n := Int32.ofNat (q_ln X a)) hx hb hc (q_kx_ty hK ht _ _) (by rw [arrV_size] <;> rfl) rfl rfl hdg (kk _ (nI_toInt (by omega)))
theorem q_acf {σ1 : ST} {H1 : Heap} {z : Nat} {v : Value} (ha : q_kd X a = k) (hk : 20 ≤ k) (e : H1[a]? = some ((arrV (q_gA X (q_et k)) (q_ln X a) (q_av X σ k a)).setSlot z v)) (hup : ∀ g, updV (q_av X σ k a) z v g = q_av X σ1 k a g) : q_cf X σ1 a H1 := by
  refine ⟨fun h => absurd h (by omega), fun _ => ?_⟩
  rw [ha, e, arrV_store]
  congr 2
  funext g
  exact hup g
theorem q_iast (E : q_E p c cc s m args own X) (hI : q_I X n σ0 H0 locs σ H) (ha : q_kd X a = k) (hk : 20 ≤ k ∧ q_et k = 1) {i v : Int32} (h0 : 0 ≤ i.toInt) (h1 : i.toInt < q_ln X a) (hcl : n < q_cl k i.toNatClampNeg) (hv : q_in (q_bn k i.toNatClampNeg) v) (hdg : decode cc pc = .ok (.iastore, 1))
    (kk : ∀ (H1 : Heap) (locs1 : List Loc), q_I X n σ0 H0 locs1 (q_si σ a i.toNatClampNeg v) H1 → W p l e R s m args below meth c H1 locs1 cells slots Q (F0 m (pc + 1) ls rest)) : W p l e R s m args below meth c H locs cells slots Q (F0 m pc ls (.int v :: .int i :: .ref a :: rest)) := by
  obtain ⟨hx, hb, hown, hts, ⟨hK, -, -⟩, -⟩ := E
  have hc := q_arr hI ha hk.1
  have hin : vp_in i (q_ln X a) := vp_in_iff.mpr ⟨h0, h1⟩
  refine W.iast hx hb hc (by rw [hk.2]; exact q_kx_ty hK (t := 1) rfl _ _) (fun q => by cases q) (by rw [arrV_size]; exact hin) rfl rfl hdg fun H1 g1 g2 g3 => ?_
  obtain ⟨i1, i2, i3, i4, i5, i6⟩ := hI
  refine kk H1 _ ⟨i1, i2.up g3 (q_acf ha hk.1 g1 (fun g => ?_)) (fun b g hb => ?_) (fun _ _ _ => rfl) (fun _ _ => rfl), i3.si ha hv, i4, i5.put g2 g3 (by show q_kd X a ≠ 0; omega), i6.tr (q_K.si ha hcl)⟩
  · unfold updV q_av q_si
    rw [hk.2]
    by_cases hg : g = i.toNatClampNeg
    · subst hg; simp
    · simp [hg]
  · show (if b = a ∧ g = i.toNatClampNeg then v else σ.1 b g) = _
    rw [if_neg (fun h => hb h.1)]
theorem q_bast (E : q_E p c cc s m args own X) (hI : q_I X n σ0 H0 locs σ H) (ha : q_kd X a = k) (hk : 20 ≤ k ∧ q_et k = 0) {i v : Int32} (h0 : 0 ≤ i.toInt) (h1 : i.toInt < q_ln X a) (hcl : n < q_cl k i.toNatClampNeg) (hv : q_bn k i.toNatClampNeg = q_full) (hdg : decode cc pc = .ok (.bastore, 1))
    (kk : ∀ (H1 : Heap) (locs1 : List Loc), q_I X n σ0 H0 locs1 (q_si σ a i.toNatClampNeg v.toInt8.toInt32) H1 → W p l e R s m args below meth c H1 locs1 cells slots Q (F0 m (pc + 1) ls rest)) : W p l e R s m args below meth c H locs cells slots Q (F0 m pc ls (.int v :: .int i :: .ref a :: rest)) := by
  obtain ⟨hx, hb, hown, hts, ⟨hK, -, -⟩, -⟩ := E
  have hc := q_arr hI ha hk.1
  have hin : vp_in i (q_ln X a) := vp_in_iff.mpr ⟨h0, h1⟩
  refine W.bast hx hb hc (by rw [hk.2]; exact q_kx_ty hK (t := 0) rfl _ _) (fun q => by cases q) (by rw [arrV_size]; exact hin) rfl rfl hdg fun H1 g1 g2 g3 => ?_
  obtain ⟨i1, i2, i3, i4, i5, i6⟩ := hI
  refine kk H1 _ ⟨i1, i2.up g3 (q_acf ha hk.1 g1 (fun g => ?_)) (fun b g hb => ?_) (fun _ _ _ => rfl) (fun _ _ => rfl), i3.si ha (q_inU hv), i4, i5.put g2 g3 (by show q_kd X a ≠ 0; omega), i6.tr (q_K.si ha hcl)⟩
  · unfold updV q_av q_si
    rw [hk.2]
    by_cases hg : g = i.toNatClampNeg
    · subst hg; simp [narrow]
    · simp [hg]
  · show (if b = a ∧ g = i.toNatClampNeg then v.toInt8.toInt32 else σ.1 b g) = _
    rw [if_neg (fun h => hb h.1)]
theorem q_last (E : q_E p c cc s m args own X) (hI : q_I X n σ0 H0 locs σ H) (ha : q_kd X a = k) (hk : 20 ≤ k ∧ q_et k = 2) {i : Int32} {v : Int64} (h0 : 0 ≤ i.toInt) (h1 : i.toInt < q_ln X a) (hdg : decode cc pc = .ok (.lastore, 1))
    (kk : ∀ (H1 : Heap) (locs1 : List Loc), q_I X n σ0 H0 locs1 (q_sl σ a i.toNatClampNeg v) H1 → W p l e R s m args below meth c H1 locs1 cells slots Q (F0 m (pc + 1) ls rest)) : W p l e R s m args below meth c H locs cells slots Q (F0 m pc ls (.long v :: .int i :: .ref a :: rest)) := by
  obtain ⟨hx, hb, hown, hts, ⟨hK, -, -⟩, -⟩ := E
  have hc := q_arr hI ha hk.1
  have hin : vp_in i (q_ln X a) := vp_in_iff.mpr ⟨h0, h1⟩
  refine W.last hx hb hc (by rw [hk.2]; exact q_kx_ty hK (t := 2) rfl _ _) (fun q => by cases q) (by rw [arrV_size]; exact hin) rfl rfl hdg fun H1 g1 g2 g3 => ?_
  obtain ⟨i1, i2, i3, i4, i5, i6⟩ := hI
  refine kk H1 _ ⟨i1, i2.up g3 (q_acf ha hk.1 g1 (fun g => ?_)) (fun _ _ _ => rfl) (fun b g hb => ?_) (fun _ _ => rfl), i3, i4, i5.put g2 g3 (by show q_kd X a ≠ 0; omega), i6.tr (fun _ _ _ => rfl)⟩
  · unfold updV q_av q_sl
    rw [hk.2]
    by_cases hg : g = i.toNatClampNeg
    · subst hg; simp
    · simp [hg]
  · show (if b = a ∧ g = i.toNatClampNeg then v else σ.2.1 b g) = _
    rw [if_neg (fun h => hb h.1)]
end QR
end
/-! FROM 03b.rows.lean.txt -/
section
section QB
variable {p : Program} {l : Launch} {e : Env} {R : Room} {s : State} {m : MethodId} {args : Array Value} {below : List Frame} {meth : Method} {c : Code} {H : Heap} {locs : List Loc} {cells slots : Nat} {Q : State → Prop} {cc : ByteArray} {own : String} {X : XW} {n : Nat} {σ0 σ : ST} {H0 : Heap} {pc : Nat} {ls : Array Slot} {rest : List Value} {a k f : Nat}
theorem q_eqI {x y : Int32} : x = y ↔ x.toInt = y.toInt := Int32.toInt_inj.symm
theorem q_z0 : (0 : Int32).toInt = 0 := rfl
theorem q_icmp_eq (E : q_E p c cc s m args own X) {x y : Int32} {A B : Int} {off : Int} {tgt : Nat} (ea : x.toInt = A) (eb : y.toInt = B) (hdg : decode cc pc = .ok (.if_icmp .eq off, 3)) (ht : (pc : Int) + off = (tgt : Int)) (kt : A = B → W p l e R s m args below meth c H locs cells slots Q (F0 m tgt ls rest)) (kf : A ≠ B → W p l e R s m args below meth c H locs cells slots Q (F0 m (pc + 3) ls rest)) : W p l e R s m args below meth c H locs cells slots Q (F0 m pc ls (.int y :: .int x :: rest)) :=
  lv_icmp_eq E.1 E.2.1 hdg ht (fun h => kt (by rw [← ea, ← eb, h])) (fun h => kf (fun q => h (q_eqI.mpr (by omega))))
theorem q_icmp_ne (E : q_E p c cc s m args own X) {x y : Int32} {A B : Int} {off : Int} {tgt : Nat} (ea : x.toInt = A) (eb : y.toInt = B) (hdg : decode cc pc = .ok (.if_icmp .ne off, 3)) (ht : (pc : Int) + off = (tgt : Int)) (kt : A ≠ B → W p l e R s m args below meth c H locs cells slots Q (F0 m tgt ls rest)) (kf : A = B → W p l e R s m args below meth c H locs cells slots Q (F0 m (pc + 3) ls rest)) : W p l e R s m args below meth c H locs cells slots Q (F0 m pc ls (.int y :: .int x :: rest)) :=
  lv_icmp_ne E.1 E.2.1 hdg ht (fun h => kt (fun q => h (q_eqI.mpr (by omega)))) (fun h => kf (by rw [← ea, ← eb, h]))
theorem q_icmp_lt (E : q_E p c cc s m args own X) {x y : Int32} {A B : Int} {off : Int} {tgt : Nat} (ea : x.toInt = A) (eb : y.toInt = B) (hdg : decode cc pc = .ok (.if_icmp .lt off, 3)) (ht : (pc : Int) + off = (tgt : Int)) (kt : A < B → W p l e R s m args below meth c H locs cells slots Q (F0 m tgt ls rest)) (kf : B ≤ A → W p l e R s m args below meth c H locs cells slots Q (F0 m (pc + 3) ls rest)) : W p l e R s m args below meth c H locs cells slots Q (F0 m pc ls (.int y :: .int x :: rest)) :=
  lv_icmp_lt E.1 E.2.1 hdg ht (fun h => kt (by rw [Int32.lt_iff_toInt_lt] at h; omega)) (fun h => kf (by rw [Int32.lt_iff_toInt_lt] at h; omega))
theorem q_icmp_ge (E : q_E p c cc s m args own X) {x y : Int32} {A B : Int} {off : Int} {tgt : Nat} (ea : x.toInt = A) (eb : y.toInt = B) (hdg : decode cc pc = .ok (.if_icmp .ge off, 3)) (ht : (pc : Int) + off = (tgt : Int)) (kt : B ≤ A → W p l e R s m args below meth c H locs cells slots Q (F0 m tgt ls rest)) (kf : A < B → W p l e R s m args below meth c H locs cells slots Q (F0 m (pc + 3) ls rest)) : W p l e R s m args below meth c H locs cells slots Q (F0 m pc ls (.int y :: .int x :: rest)) :=
  lv_icmp_ge E.1 E.2.1 hdg ht (fun h => kt (by rw [Int32.le_iff_toInt_le] at h; omega)) (fun h => kf (by rw [Int32.le_iff_toInt_le] at h; omega))
theorem q_icmp_gt (E : q_E p c cc s m args own X) {x y : Int32} {A B : Int} {off : Int} {tgt : Nat} (ea : x.toInt = A) (eb : y.toInt = B) (hdg : decode cc pc = .ok (.if_icmp .gt off, 3)) (ht : (pc : Int) + off = (tgt : Int)) (kt : B < A → W p l e R s m args below meth c H locs cells slots Q (F0 m tgt ls rest)) (kf : A ≤ B → W p l e R s m args below meth c H locs cells slots Q (F0 m (pc + 3) ls rest)) : W p l e R s m args below meth c H locs cells slots Q (F0 m pc ls (.int y :: .int x :: rest)) :=
  lv_icmp_gt E.1 E.2.1 hdg ht (fun h => kt (by rw [Int32.lt_iff_toInt_lt] at h; omega)) (fun h => kf (by rw [Int32.lt_iff_toInt_lt] at h; omega))
theorem q_icmp_le (E : q_E p c cc s m args own X) {x y : Int32} {A B : Int} {off : Int} {tgt : Nat} (ea : x.toInt = A) (eb : y.toInt = B) (hdg : decode cc pc = .ok (.if_icmp .le off, 3)) (ht : (pc : Int) + off = (tgt : Int)) (kt : A ≤ B → W p l e R s m args below meth c H locs cells slots Q (F0 m tgt ls rest)) (kf : B < A → W p l e R s m args below meth c H locs cells slots Q (F0 m (pc + 3) ls rest)) : W p l e R s m args below meth c H locs cells slots Q (F0 m pc ls (.int y :: .int x :: rest)) :=
  lv_icmp_le E.1 E.2.1 hdg ht (fun h => kt (by rw [Int32.le_iff_toInt_le] at h; omega)) (fun h => kf (by rw [Int32.le_iff_toInt_le] at h; omega))
theorem q_if_eq (E : q_E p c cc s m args own X) {x : Int32} {A : Int} {off : Int} {tgt : Nat} (ea : x.toInt = A) (hdg : decode cc pc = .ok (.ifCond .eq off, 3)) (ht : (pc : Int) + off = (tgt : Int)) (kt : A = 0 → W p l e R s m args below meth c H locs cells slots Q (F0 m tgt ls rest)) (kf : A ≠ 0 → W p l e R s m args below meth c H locs cells slots Q (F0 m (pc + 3) ls rest)) : W p l e R s m args below meth c H locs cells slots Q (F0 m pc ls (.int x :: rest)) :=
  lv_if_eq E.1 E.2.1 hdg ht (fun h => kt (by rw [← ea, h]; rfl)) (fun h => kf (fun q => h (q_eqI.mpr (by rw [q_z0]; omega))))
theorem q_if_ne (E : q_E p c cc s m args own X) {x : Int32} {A : Int} {off : Int} {tgt : Nat} (ea : x.toInt = A) (hdg : decode cc pc = .ok (.ifCond .ne off, 3)) (ht : (pc : Int) + off = (tgt : Int)) (kt : A ≠ 0 → W p l e R s m args below meth c H locs cells slots Q (F0 m tgt ls rest)) (kf : A = 0 → W p l e R s m args below meth c H locs cells slots Q (F0 m (pc + 3) ls rest)) : W p l e R s m args below meth c H locs cells slots Q (F0 m pc ls (.int x :: rest)) :=
  lv_if_ne E.1 E.2.1 hdg ht (fun h => kt (fun q => h (q_eqI.mpr (by rw [q_z0]; omega)))) (fun h => kf (by rw [← ea, h]; rfl))
theorem q_if_lt (E : q_E p c cc s m args own X) {x : Int32} {A : Int} {off : Int} {tgt : Nat} (ea : x.toInt = A) (hdg : decode cc pc = .ok (.ifCond .lt off, 3)) (ht : (pc : Int) + off = (tgt : Int)) (kt : A < 0 → W p l e R s m args below meth c H locs cells slots Q (F0 m tgt ls rest)) (kf : 0 ≤ A → W p l e R s m args below meth c H locs cells slots Q (F0 m (pc + 3) ls rest)) : W p l e R s m args below meth c H locs cells slots Q (F0 m pc ls (.int x :: rest)) :=
  lv_if_lt E.1 E.2.1 hdg ht (fun h => kt (by rw [Int32.lt_iff_toInt_lt, q_z0] at h; omega)) (fun h => kf (by rw [Int32.lt_iff_toInt_lt, q_z0] at h; omega))
theorem q_if_ge (E : q_E p c cc s m args own X) {x : Int32} {A : Int} {off : Int} {tgt : Nat} (ea : x.toInt = A) (hdg : decode cc pc = .ok (.ifCond .ge off, 3)) (ht : (pc : Int) + off = (tgt : Int)) (kt : 0 ≤ A → W p l e R s m args below meth c H locs cells slots Q (F0 m tgt ls rest)) (kf : A < 0 → W p l e R s m args below meth c H locs cells slots Q (F0 m (pc + 3) ls rest)) : W p l e R s m args below meth c H locs cells slots Q (F0 m pc ls (.int x :: rest)) :=
  lv_if_ge E.1 E.2.1 hdg ht (fun h => kt (by rw [Int32.le_iff_toInt_le, q_z0] at h; omega)) (fun h => kf (by rw [Int32.le_iff_toInt_le, q_z0] at h; omega))
theorem q_if_gt (E : q_E p c cc s m args own X) {x : Int32} {A : Int} {off : Int} {tgt : Nat} (ea : x.toInt = A) (hdg : decode cc pc = .ok (.ifCond .gt off, 3)) (ht : (pc : Int) + off = (tgt : Int)) (kt : 0 < A → W p l e R s m args below meth c H locs cells slots Q (F0 m tgt ls rest)) (kf : A ≤ 0 → W p l e R s m args below meth c H locs cells slots Q (F0 m (pc + 3) ls rest)) : W p l e R s m args below meth c H locs cells slots Q (F0 m pc ls (.int x :: rest)) :=
  lv_if_gt E.1 E.2.1 hdg ht (fun h => kt (by rw [Int32.lt_iff_toInt_lt, q_z0] at h; omega)) (fun h => kf (by rw [Int32.lt_iff_toInt_lt, q_z0] at h; omega))
theorem q_if_le (E : q_E p c cc s m args own X) {x : Int32} {A : Int} {off : Int} {tgt : Nat} (ea : x.toInt = A) (hdg : decode cc pc = .ok (.ifCond .le off, 3)) (ht : (pc : Int) + off = (tgt : Int)) (kt : A ≤ 0 → W p l e R s m args below meth c H locs cells slots Q (F0 m tgt ls rest)) (kf : 0 < A → W p l e R s m args below meth c H locs cells slots Q (F0 m (pc + 3) ls rest)) : W p l e R s m args below meth c H locs cells slots Q (F0 m pc ls (.int x :: rest)) :=
  lv_if_le E.1 E.2.1 hdg ht (fun h => kt (by rw [Int32.le_iff_toInt_le, q_z0] at h; omega)) (fun h => kf (by rw [Int32.le_iff_toInt_le, q_z0] at h; omega))
/-- compare of longs -/
theorem q_lcmp (E : q_E p c cc s m args own X) {x y : Int64} (hdg : decode cc pc = .ok (.lcmp, 1)) (kk : ∀ z : Int32, ((z.toInt < 0 ↔ x.toInt < y.toInt) ∧ (0 < z.toInt ↔ y.toInt < x.toInt)) → W p l e R s m args below meth c H locs cells slots Q (F0 m (pc + 1) ls (.int z :: rest))) : W p l e R s m args below meth c H locs cells slots Q (F0 m pc ls (.long y :: .long x :: rest)) := by
  refine W.lcmp E.1 E.2.1 hdg (kk _ ⟨?_, ?_⟩)
  · have h := lg_cmp_lt x y
    rw [Int32.lt_iff_toInt_lt, q_z0, Int64.lt_iff_toInt_lt] at h
    exact h
  · have h := lg_cmp_gt x y
    rw [Int32.lt_iff_toInt_lt, q_z0, Int64.lt_iff_toInt_lt] at h
    exact h
/-- stores into arrays, the new state named -/
theorem q_iastN (E : q_E p c cc s m args own X) (hI : q_I X n σ0 H0 locs σ H) (ha : q_kd X a = k) (hk : 20 ≤ k ∧ q_et k = 1) {i v : Int32} (h0 : 0 ≤ i.toInt) (h1 : i.toInt < q_ln X a) (hcl : n < q_cl k i.toNatClampNeg) (hv : q_in (q_bn k i.toNatClampNeg) v) (hdg : decode cc pc = .ok (.iastore, 1))
    (kk : ∀ (H1 : Heap) (locs1 : List Loc) (σ1 : ST), σ1 = q_si σ a i.toNatClampNeg v → q_I X n σ0 H0 locs1 σ1 H1 → W p l e R s m args below meth c H1 locs1 cells slots Q (F0 m (pc + 1) ls rest)) : W p l e R s m args below meth c H locs cells slots Q (F0 m pc ls (.int v :: .int i :: .ref a :: rest)) :=
  q_iast E hI ha hk h0 h1 hcl hv hdg (fun H1 l1 h => kk H1 l1 _ rfl h)
theorem q_bastN (E : q_E p c cc s m args own X) (hI : q_I X n σ0 H0 locs σ H) (ha : q_kd X a = k) (hk : 20 ≤ k ∧ q_et k = 0) {i v : Int32} (h0 : 0 ≤ i.toInt) (h1 : i.toInt < q_ln X a) (hcl : n < q_cl k i.toNatClampNeg) (hv : q_bn k i.toNatClampNeg = q_full) (hdg : decode cc pc = .ok (.bastore, 1))
    (kk : ∀ (H1 : Heap) (locs1 : List Loc) (σ1 : ST), σ1 = q_si σ a i.toNatClampNeg v.toInt8.toInt32 → q_I X n σ0 H0 locs1 σ1 H1 → W p l e R s m args below meth c H1 locs1 cells slots Q (F0 m (pc + 1) ls rest)) : W p l e R s m args below meth c H locs cells slots Q (F0 m pc ls (.int v :: .int i :: .ref a :: rest)) :=
  q_bast E hI ha hk h0 h1 hcl hv hdg (fun H1 l1 h => kk H1 l1 _ rfl h)
theorem q_lastN (E : q_E p c cc s m args own X) (hI : q_I X n σ0 H0 locs σ H) (ha : q_kd X a = k) (hk : 20 ≤ k ∧ q_et k = 2) {i : Int32} {v : Int64} (h0 : 0 ≤ i.toInt) (h1 : i.toInt < q_ln X a) (hdg : decode cc pc = .ok (.lastore, 1))
    (kk : ∀ (H1 : Heap) (locs1 : List Loc) (σ1 : ST), σ1 = q_sl σ a i.toNatClampNeg v → q_I X n σ0 H0 locs1 σ1 H1 → W p l e R s m args below meth c H1 locs1 cells slots Q (F0 m (pc + 1) ls rest)) : W p l e R s m args below meth c H locs cells slots Q (F0 m pc ls (.long v :: .int i :: .ref a :: rest)) :=
  q_last E hI ha hk h0 h1 hdg (fun H1 l1 h => kk H1 l1 _ rfl h)
end QB
theorem q_tk23 {X : XW} {n : Nat} {σ0 σ : ST} {H0 H : Heap} {locs : List Loc} (hI : q_I X n σ0 H0 locs σ H) {a : Nat} (ha : q_kd X a = 23) {i : Int32} (h0 : 0 ≤ i.toInt) (h1 : i.toInt < 4) : q_kd X (q_rf X a i.toNatClampNeg) = 10 := by
  have hv : vp_in i 4 := vp_in_iff.mpr ⟨h0, by simpa using h1⟩
  obtain ⟨j, hj, rfl⟩ := vp_in_of hv (by decide)
  rw [nI_clamp (by omega)]
  exact q_tk hI ha (by match j, hj with | 0, _ => rfl | 1, _ => rfl | 2, _ => rfl | 3, _ => rfl) (by decide)
theorem q_tk24 {X : XW} {n : Nat} {σ0 σ : ST} {H0 H : Heap} {locs : List Loc} (hI : q_I X n σ0 H0 locs σ H) {a : Nat} (ha : q_kd X a = 24) {i : Int32} (h0 : 0 ≤ i.toInt) (h1 : i.toInt < 3) : q_kd X (q_rf X a i.toNatClampNeg) = 1 := by
  have hv : vp_in i 3 := vp_in_iff.mpr ⟨h0, by simpa using h1⟩
  obtain ⟨j, hj, rfl⟩ := vp_in_of hv (by decide)
  rw [nI_clamp (by omega)]
  exact q_tk hI ha (by match j, hj with | 0, _ => rfl | 1, _ => rfl | 2, _ => rfl) (by decide)
theorem q_ne0 {y : Int32} (h : y.toInt ≠ 0) : ¬ y = 0 := fun q => h (by rw [q]; rfl)
theorem q_ne0l {y : Int64} (h : y.toInt ≠ 0) : ¬ y = 0 := fun q => h (by rw [q]; rfl)
theorem q_add {x y z : Int32} (e : z = x + y) (h1 : -2147483648 ≤ x.toInt + y.toInt) (h2 : x.toInt + y.toInt ≤ 2147483647) : z.toInt = x.toInt + y.toInt := by
  rw [e, Int32.toInt_add]
  exact Int.bmod_eq_of_le (by omega) (by omega)
theorem q_sub {x y z : Int32} (e : z = x - y) (h1 : -2147483648 ≤ x.toInt - y.toInt) (h2 : x.toInt - y.toInt ≤ 2147483647) : z.toInt = x.toInt - y.toInt := by
  rw [e, Int32.toInt_sub]
  exact Int.bmod_eq_of_le (by omega) (by omega)
theorem q_mul {x y z : Int32} (e : z = x * y) (h1 : -2147483648 ≤ x.toInt * y.toInt) (h2 : x.toInt * y.toInt ≤ 2147483647) : z.toInt = x.toInt * y.toInt := by
  rw [e, Int32.toInt_mul]
  exact Int.bmod_eq_of_le (by omega) (by omega)
theorem q_i2l (x : Int32) : x.toInt64.toInt = x.toInt := Int32.toInt_toInt64 x
theorem q_cn {x : Int32} : x.toNatClampNeg = x.toInt.toNat := rfl
end
/-! FROM 04.calls.lean.txt -/
section
theorem q_goodT : ∀ w ∈ q_tbl, (w.onTables && w.keeps) = true ∨ ∃ ty, w = .arrayClass ty := by
  intro w h
  rcases List.mem_append.mp h with h | h
  · simp only [q_extra, List.mem_cons, List.not_mem_nil, or_false] at h
    rcases h with rfl | rfl | rfl | rfl <;> exact Or.inl rfl
  · exact good_of_word (List.mem_filter.mp h).2
theorem q_goodIn {ws : List Cond} (h : ∀ w ∈ ws, w ∈ q_tbl) : GoodIn q_tbl ws := fun w hw => ⟨h w hw, q_goodT w (h w hw)⟩
/-- a word of the tables by its place -/
theorem q_in_t {i : Nat} {w : Cond} (h : tables_1[i]? = some w) (g : goodWord w = true) : w ∈ q_tbl := List.mem_append_right _ <| List.mem_filter.mpr ⟨List.mem_append_right _ (List.mem_of_getElem? h), g⟩
theorem q_in_m {w : Cond} (h : w ∈ tables_1) (g : goodWord w = true) : w ∈ q_tbl := List.mem_append_right _ <| List.mem_filter.mpr ⟨List.mem_append_right _ h, g⟩
theorem q_in_t1 {i : Nat} {w : Cond} (h : tables_1_1[i]? = some w) (g : goodWord w = true) : w ∈ q_tbl := q_in_m (List.mem_append_left _ (List.mem_of_getElem? h)) g
theorem q_in_t2 {i : Nat} {w : Cond} (h : tables_1_2[i]? = some w) (g : goodWord w = true) : w ∈ q_tbl := q_in_m (List.mem_append_right _ (List.mem_append_left _ (List.mem_of_getElem? h))) g
theorem q_in_t3 {i : Nat} {w : Cond} (h : tables_1_3[i]? = some w) (g : goodWord w = true) : w ∈ q_tbl := q_in_m (List.mem_append_right _ (List.mem_append_right _ (List.mem_append_left _ (List.mem_of_getElem? h)))) g
theorem q_in_t4 {i : Nat} {w : Cond} (h : tables_1_4[i]? = some w) (g : goodWord w = true) : w ∈ q_tbl := q_in_m (List.mem_append_right _ (List.mem_append_right _ (List.mem_append_right _ (List.mem_append_left _ (List.mem_of_getElem? h))))) g
theorem q_in_t5 {i : Nat} {w : Cond} (h : tables_1_5[i]? = some w) (g : goodWord w = true) : w ∈ q_tbl := q_in_m (List.mem_append_right _ (List.mem_append_right _ (List.mem_append_right _ (List.mem_append_right _ (List.mem_append_left _ (List.mem_of_getElem? h)))))) g
theorem q_in_t6 {i : Nat} {w : Cond} (h : tables_1_6[i]? = some w) (g : goodWord w = true) : w ∈ q_tbl := q_in_m (List.mem_append_right _ (List.mem_append_right _ (List.mem_append_right _ (List.mem_append_right _ (List.mem_append_right _ (List.mem_append_left _ (List.mem_of_getElem? h))))))) g
theorem q_in_t7 {i : Nat} {w : Cond} (h : tables_1_7[i]? = some w) (g : goodWord w = true) : w ∈ q_tbl := q_in_m (List.mem_append_right _ (List.mem_append_right _ (List.mem_append_right _ (List.mem_append_right _ (List.mem_append_right _ (List.mem_append_right _ (List.mem_append_left _ (List.mem_of_getElem? h)))))))) g
theorem q_in_t8 {i : Nat} {w : Cond} (h : tables_1_8[i]? = some w) (g : goodWord w = true) : w ∈ q_tbl := q_in_m (List.mem_append_right _ (List.mem_append_right _ (List.mem_append_right _ (List.mem_append_right _ (List.mem_append_right _ (List.mem_append_right _ (List.mem_append_right _ (List.mem_append_left _ (List.mem_of_getElem? h))))))))) g
theorem q_in_t9 {i : Nat} {w : Cond} (h : tables_1_9[i]? = some w) (g : goodWord w = true) : w ∈ q_tbl := q_in_m (List.mem_append_right _ (List.mem_append_right _ (List.mem_append_right _ (List.mem_append_right _ (List.mem_append_right _ (List.mem_append_right _ (List.mem_append_right _ (List.mem_append_right _ (List.mem_of_getElem? h))))))))) g
theorem q_in_p {i : Nat} {w : Cond} (h : (k2_sels lw_privs)[i]? = some w) (g : goodWord w = true) : w ∈ q_tbl := List.mem_append_right _ <| List.mem_filter.mpr ⟨List.mem_append_left _ (List.mem_of_getElem? h), g⟩
theorem q_in_x {i : Nat} {w : Cond} (h : q_extra[i]? = some w) : w ∈ q_tbl := List.mem_append_left _ (List.mem_of_getElem? h)
theorem q_KX.warm {X : XW} {s U : State} (hW : s.WarmedH U.vm) (h : q_KX X s) : q_KX X U := ⟨va_K.moved hW.alike h.1, fun r hr => va_Nw.warmM hW (h.2.1 r hr), fun r hr => vk_R.warm hW (h.2.2 r hr)⟩
theorem q_SW.kept {X : XW} {s U : State} {H H1 : Heap} (hvm : s.vm.Alike U.vm) (h : q_SW X s H) (hq : ∀ a : Nat, a < H.size → ¬ q_reg X a → H1[a]? = H[a]?) : q_SW X U H1 := ⟨(h.1.moved hvm).kept hq, (h.2.1.moved hvm).kept hq, (h.2.2.moved hvm).kept hq⟩
/-- what a call site says of the tables: an instance method of the class C itself -/
def q_okV (own : String) (index : Nat) (C : String) (y : MethodName) (bytes : ByteArray) (mL : Nat) (ret : Option FieldType) (n : Nat) : Prop :=
  Cond.methodLink own index y ∈ q_tbl ∧ Cond.instanceMethod y ∈ q_tbl ∧ Cond.selects C y y ∈ q_tbl ∧ Cond.initialized C ∈ q_tbl ∧ Cond.code y bytes mL ret ∈ q_tbl ∧ (y.cls = C ∧ y.cls ≠ "java/lang/invoke/MethodHandle" ∧ y.cls ≠ "java/lang/invoke/VarHandle" ∧ (parseMethodDescriptor y.desc).map (fun d => d.parameters.length) = some n)
/-- a static method -/
def q_okS (own : String) (index : Nat) (y : MethodName) (bytes : ByteArray) (mL : Nat) (ret : Option FieldType) (n : Nat) : Prop :=
  Cond.methodLink own index y ∈ q_tbl ∧ Cond.static y ∈ q_tbl ∧ Cond.initialized y.cls ∈ q_tbl ∧ Cond.code y bytes mL ret ∈ q_tbl ∧ (y.cls ≠ "java/lang/invoke/MethodHandle" ∧ y.cls ≠ "java/lang/invoke/VarHandle" ∧ (parseMethodDescriptor y.desc).map (fun d => d.parameters.length) = some n)
/-- an inherited method y, called by the name x, of a receiver of class C -/
def q_okU (own : String) (index : Nat) (C owner : String) (x y : MethodName) (bytes : ByteArray) (mL : Nat) (ret : Option FieldType) (n : Nat) : Prop :=
  Cond.methodLink own index x ∈ q_tbl ∧ Cond.sameMethod x.cls owner x.name x.desc ∈ q_tbl ∧ Cond.selects C x y ∈ q_tbl ∧ Cond.instanceMethod y ∈ q_tbl ∧ Cond.initialized y.cls ∈ q_tbl ∧ Cond.code y bytes mL ret ∈ q_tbl ∧ (owner ≠ "java/lang/invoke/MethodHandle" ∧ owner ≠ "java/lang/invoke/VarHandle" ∧ (parseMethodDescriptor x.desc).map (fun d => d.parameters.length) = some n) ∧ (x.name = y.name ∧ x.desc = y.desc ∧ owner = y.cls)
abbrev q_Qi (X : XW) (n : Nat) (σ : ST) (post : Int32 → ST → Prop) : Array Value → State → Outcome → State → Prop := va_Qi (S := ST) post (fun σ' t => q_Post X n σ σ' t.heap) (q_reg X)
abbrev q_Ql (X : XW) (n : Nat) (σ : ST) (post : Int64 → ST → Prop) : Array Value → State → Outcome → State → Prop := va_Ql (S := ST) post (fun σ' t => q_Post X n σ σ' t.heap) (q_reg X)
abbrev q_Qv (X : XW) (n : Nat) (σ : ST) (post : ST → Prop) : Array Value → State → Outcome → State → Prop := va_Qv (S := ST) post (fun σ' t => q_Post X n σ σ' t.heap) (q_reg X)
abbrev q_Qq (X : XW) (n : Nat) (σ : ST) (post : Option Nat → ST → Prop) : Array Value → State → Outcome → State → Prop := va_Qq (S := ST) post (fun σ' t => q_Post X n σ σ' t.heap) (q_reg X)
abbrev q_P (X : XW) (σ : ST) (av : List Value) : Array Value → State → Prop := va_Pc av (q_Pre X σ)
theorem q_blind {X : XW} {σ : ST} {av : List Value} : FrameBlind (q_P X σ av) := by
  rintro a U g mk ⟨h1, hT, hR, hB, hTT, hK, hW⟩
  exact ⟨h1, hT, hR, hB, hTT, ⟨va_K.moved (u := U) (U := U.calling g mk a) (Vm.Alike.refl U.vm) hK.1, fun r hr => va_Nw.same (u := U) (U := U.calling g mk a) rfl rfl (hK.2.1 r hr), fun r hr => vk_R.same (u := U) (U := U.calling g mk a) rfl (hK.2.2 r hr)⟩, q_SW.kept (s := U) (U := U.calling g mk a) (Vm.Alike.refl U.vm) hW (fun _ _ _ => rfl)⟩
/-- a method's proof begins -/
theorem q_met {l : Launch} {y : MethodName} {cc : ByteArray} {mL : Nat} {ret : Option FieldType} {rm : Room} {av : List Value} {X : XW} {σ : ST} {own : String} {Qc : Array Value → State → Outcome → State → Prop} (n : Nat) (hy : plainFor y = true) (ho : y.cls = own) (hlen : (lg_sl av).length ≤ mL)
    (body : ∀ (p : Program) (e : Env) (s : State) (m : MethodId) (below : List Frame) (meth : Method) (c : Code), q_E p c cc s m av.toArray own X → c.maxLocals = mL → meth.sig.returnType = ret → meth.locks = false → q_I X n σ s.heap [] σ s.heap → ∀ ls : Array Slot, lv_has ls mL (lv_args 0 av) → W p l e rm s m av.toArray below meth c s.heap [] 0 0 (MQ below Qc av.toArray s 0 0 (q_reg X)) (F0 m 0 ls [])) :
    Met l y (q_ws y cc mL ret) rm (q_P X σ av) Qc 0 0 (q_reg X) := by
  refine MetFree.of_bodySF (code := cc) (maxLocals := mL) (ret := ret) hy ?_ ?_
  · intro args s m h hn
    obtain ⟨meth, c, h1, h2, h3, h4, h5, h6, -, -⟩ := Cond.code_spec hn (atoms_spec (ws := q_ws y cc mL ret) h _ List.mem_cons_self)
    exact ⟨meth, c, h1, h2, h3, h4, h5, h6⟩
  intro p e s m args below meth c s₁ B hml hv _
  obtain ⟨rfl, hT, hR, hB, hTT, hK, hW⟩ := hv
  have hh0 : s₁.heap = s.heap := by rw [B.state]; rfl
  suffices hW9 : W p l e rm s m av.toArray below meth c s.heap [] 0 0 (MQ below Qc av.toArray s 0 0 (q_reg X)) (entryFrame m av.toArray mL) by
    obtain ⟨t, a1, o, b1, b2, b3⟩ := hW9 s₁ hh0 (Stand.of_body B)
    exact ⟨t, o, a1, b1, b2, ⟨b3.1, b3.2⟩⟩
  have hts := atoms_spec (ws := q_ws y cc mL ret) B.pre
  have hown : s.vm.findClass y.cls = some m.cls := findClass_of_methodNamed B.named
  rw [ho] at hown
  have hl := lv_entry av hlen
  rw [lg_entry_eq]
  generalize (lg_sl av ++ List.replicate (mL - (lg_sl av).length) Slot.unset).toArray = ls at hl ⊢
  exact body p e s m below meth c ⟨B.exec, B.bytes, hown, fun w hw => hts w (List.mem_cons_of_mem _ hw), hK, hW⟩ hml B.returns B.notSynchronized ⟨hT, hR, hB, hTT, va_S.rf, q_K.rf⟩ ls hl
theorem q_metQ {l : Launch} {y : MethodName} {cc : ByteArray} {mL : Nat} {ret : Option FieldType} {rm : Room} {av : List Value} {X : XW} {σ : ST} {own : String} {Qc : Array Value → State → Outcome → State → Prop} (n : Nat) (hy : plainFor y = true) (ho : y.cls = own) (hlen : (lg_sl av).length ≤ mL)
    (body : ∀ (QQ : Array Value → State → Outcome → State → Prop), QQ = Qc → ∀ (p : Program) (e : Env) (s : State) (m : MethodId) (below : List Frame) (meth : Method) (c : Code), q_E p c cc s m av.toArray own X → c.maxLocals = mL → meth.sig.returnType = ret → meth.locks = false → q_I X n σ s.heap [] σ s.heap → ∀ ls : Array Slot, lv_has ls mL (lv_args 0 av) → W p l e rm s m av.toArray below meth c s.heap [] 0 0 (MQ below QQ av.toArray s 0 0 (q_reg X)) (F0 m 0 ls [])) :
    Met l y (q_ws y cc mL ret) rm (q_P X σ av) Qc 0 0 (q_reg X) :=
  q_met n hy ho hlen (body Qc rfl)
section QC
variable {p : Program} {l : Launch} {e : Env} {R : Room} {s : State} {m : MethodId} {args : Array Value} {below : List Frame} {meth : Method} {c : Code} {H : Heap} {locs : List Loc} {cells slots : Nat} {Q : State → Prop} {cc : ByteArray} {own : String} {X : XW} {n n' : Nat} {σ0 σ : ST} {H0 : Heap} {pc : Nat} {ls : Array Slot} {rest st : List Value} {a : Array Value}
theorem q_I.S (hI : q_I X n σ0 H0 locs σ H) : va_S (q_reg X) H0 H locs := hI.2.2.2.2.1
theorem q_I.K (hI : q_I X n σ0 H0 locs σ H) : q_K n X σ0 σ := hI.2.2.2.2.2
theorem q_I.post (hI : q_I X n σ0 H0 locs σ H) : q_Post X n σ0 σ H := ⟨hI.2.1, hI.2.2.1, hI.2.2.2.1, hI.2.2.2.2.2⟩
/-- returns -/
theorem q_reti (E : q_E p c cc s m args own X) (hr : meth.sig.returnType = some .int) (hlk : meth.locks = false) (hI : q_I X n σ0 s.heap locs σ H) {post : Int32 → ST → Prop} {v : Int32} (hp : post v σ) (hdg : decode cc pc = .ok (.ireturn, 1)) : W p l e R s m args below meth c H locs cells slots (MQ below (q_Qi X n σ0 post) args s cells slots (q_reg X)) (F0 m pc ls [.int v]) :=
  W.iret E.1 E.2.1 hr (fun t ht _ => ⟨⟨v, σ, rfl, hp, by show q_Post X n σ0 σ t.heap; rw [ht]; exact hI.post⟩, hI.S.F ht⟩) hI.S.2.2 hdg hlk
theorem q_retz (E : q_E p c cc s m args own X) (hr : meth.sig.returnType = some .boolean) (hlk : meth.locks = false) (hI : q_I X n σ0 s.heap locs σ H) {post : Int32 → ST → Prop} {v : Int32} (h01 : 0 ≤ v.toInt ∧ v.toInt ≤ 1) (hp : post v σ) (hdg : decode cc pc = .ok (.ireturn, 1)) : W p l e R s m args below meth c H locs cells slots (MQ below (q_Qi X n σ0 post) args s cells slots (q_reg X)) (F0 m pc ls [.int v]) :=
  W.zret E.1 E.2.1 hr (q_nar0 (Or.inr ⟨rfl, h01⟩)).1 (fun t ht _ => ⟨⟨v, σ, rfl, hp, by show q_Post X n σ0 σ t.heap; rw [ht]; exact hI.post⟩, hI.S.F ht⟩) hI.S.2.2 hdg hlk
theorem q_retl (E : q_E p c cc s m args own X) (hr : meth.sig.returnType = some .long) (hlk : meth.locks = false) (hI : q_I X n σ0 s.heap locs σ H) {post : Int64 → ST → Prop} {v : Int64} (hp : post v σ) (hdg : decode cc pc = .ok (.lreturn, 1)) : W p l e R s m args below meth c H locs cells slots (MQ below (q_Ql X n σ0 post) args s cells slots (q_reg X)) (F0 m pc ls [.long v]) :=
  W.lret E.1 E.2.1 hr (fun t ht _ => ⟨⟨v, σ, rfl, hp, by show q_Post X n σ0 σ t.heap; rw [ht]; exact hI.post⟩, hI.S.F ht⟩) hI.S.2.2 hdg hlk
theorem q_retv (E : q_E p c cc s m args own X) (hr : meth.sig.returnType = none) (hlk : meth.locks = false) (hI : q_I X n σ0 s.heap locs σ H) {post : ST → Prop} (hp : post σ) (hdg : decode cc pc = .ok (.return_, 1)) : W p l e R s m args below meth c H locs cells slots (MQ below (q_Qv X n σ0 post) args s cells slots (q_reg X)) (F0 m pc ls []) :=
  W.vret E.1 E.2.1 hr (fun t ht _ => ⟨⟨σ, rfl, hp, by show q_Post X n σ0 σ t.heap; rw [ht]; exact hI.post⟩, hI.S.F ht⟩) hI.S.2.2 hdg hlk
theorem q_retq (E : q_E p c cc s m args own X) {nm : String} (hr : meth.sig.returnType = some (.object nm)) (hlk : meth.locks = false) (hI : q_I X n σ0 s.heap locs σ H) {post : Option Nat → ST → Prop} {r : Option Nat} {v : Value} (hv : v = va_rf r) (hp : post r σ) (hdg : decode cc pc = .ok (.areturn, 1)) : W p l e R s m args below meth c H locs cells slots (MQ below (q_Qq X n σ0 post) args s cells slots (q_reg X)) (F0 m pc ls [v]) := by
  subst hv
  exact W.aret E.1 E.2.1 hr (Or.inl ⟨_, rfl⟩) (va_rf_or r) (fun t ht _ => ⟨⟨r, σ, rfl, hp, by show q_Post X n σ0 σ t.heap; rw [ht]; exact hI.post⟩, hI.S.F ht⟩) hI.S.2.2 hdg hlk
/-- calls -/
theorem q_fix {nL : Nat} (E : q_E p c cc s m args own X) (hml : c.maxLocals = nL) : CallFix p m c cc nL s args q_tbl own := ⟨E.1, E.2.1, hml, E.2.2.1, E.2.2.2.1⟩
theorem q_preS (E : q_E p c cc s m args own X) (hI : q_I X n σ0 s.heap locs σ H) (As : List Value) : PreS s H (q_P X σ As) As :=
  ⟨q_blind, fun U hU hW => ⟨rfl, hI.1, by rw [hU]; exact hI.2.1, hI.2.2.1, hI.2.2.2.1, q_KX.warm hW E.2.2.2.2.1, by rw [hU]; exact q_SW.kept hW.alike E.2.2.2.2.2 hI.S.2.1⟩⟩
theorem q_preV (E : q_E p c cc s m args own X) (hI : q_I X n σ0 s.heap locs σ H) (As : List Value) {b k ci N : Nat} {C : String} {T : u_T} (hb : q_kd X b = k) (hk : k = ci + 1 ∧ k < 20) (hc : vwCl[ci]? = some (C, T, N)) : PreV s H C b (q_P X σ (.ref b :: As)) As := by
  refine ⟨q_blind, ?_, (q_preS E hI (.ref b :: As)).2⟩
  obtain ⟨cell, q1, q2, q3, q4⟩ := q_obj hI hb hk hc
  obtain ⟨hS, hfc, -⟩ := E.2.2.2.2.1.1.1 ci _ hc
  exact ⟨cell, q1, by rw [q3]; rfl, by rw [q2]; exact hfc⟩
theorem q_runV (E : q_E p c cc s m args own X) (hml : c.maxLocals = ls.size) (hI : q_I X n σ0 s.heap locs σ H) {As : List Value} {b k ci N index mL na f w : Nat} {C : String} {T : u_T} {y : MethodName} {bytes : ByteArray} {ret : Option FieldType} {Qc : Array Value → State → Outcome → State → Prop}
    (hM : Met l y (q_ws y bytes mL ret) (q_rm f w) (q_P X σ (.ref b :: As)) Qc 0 0 (q_reg X)) (ok : q_okV own index C y bytes mL ret na) (hb : q_kd X b = k) (hk : k = ci + 1 ∧ k < 20) (hc : vwCl[ci]? = some (C, T, N)) (hn : As.length = na) (hR : f + 1 ≤ R.frames ∧ 8 + (mL + 11) + w ≤ R.locals) (hcs : cells ≤ R.cells ∧ slots ≤ R.slots)
    (hst : st = As.reverse ++ .ref b :: rest) (hW : (rest.map fun v => v.category).sum ≤ 8) (hdg : decode cc pc = .ok (.invokevirtual index, 3)) :
    va_Run p l e R s m args below meth c H locs cells slots 0 0 (F0 m pc ls st) rest (Qc (Value.ref b :: As).toArray) (q_reg X) := by
  obtain ⟨o1, o2, o3, o4, o5, o6⟩ := ok
  refine va_runV (nL := ls.size) (q_fix E hml) hM (cwV na E.2.2.2.1 (q_goodIn fun w hw => ?_) rfl rfl rfl o6 hR) (q_preV E hI As hb hk hc) rfl hn rfl hst (lv_room hW) hdg hcs
  unfold wsV at hw
  rcases List.mem_append.mp hw with h | h
  · simp only [List.mem_cons, List.not_mem_nil, or_false] at h
    rcases h with rfl | rfl | rfl | rfl
    · exact o1
    · exact o2
    · exact o3
    · exact o4
  · rcases List.mem_cons.mp h with rfl | h
    · exact o5
    · exact h
theorem q_runS (E : q_E p c cc s m args own X) (hml : c.maxLocals = ls.size) (hI : q_I X n σ0 s.heap locs σ H) {As : List Value} {index mL na f w : Nat} {y : MethodName} {bytes : ByteArray} {ret : Option FieldType} {Qc : Array Value → State → Outcome → State → Prop}
    (hM : Met l y (q_ws y bytes mL ret) (q_rm f w) (q_P X σ As) Qc 0 0 (q_reg X)) (ok : q_okS own index y bytes mL ret na) (hn : As.length = na) (hR : f + 1 ≤ R.frames ∧ 8 + (mL + 11) + w ≤ R.locals) (hcs : cells ≤ R.cells ∧ slots ≤ R.slots)
    (hst : st = As.reverse ++ rest) (hW : (rest.map fun v => v.category).sum ≤ 8) (hdg : decode cc pc = .ok (.invokestatic index, 3)) :
    va_Run p l e R s m args below meth c H locs cells slots 0 0 (F0 m pc ls st) rest (Qc As.toArray) (q_reg X) := by
  obtain ⟨o1, o2, o3, o4, o5⟩ := ok
  refine va_runS (nL := ls.size) (q_fix E hml) hM (va_cwS na E.2.2.2.1 (q_goodIn fun w hw => ?_) rfl rfl rfl o5 hR) (q_preS E hI As) rfl hn rfl hst (lv_room hW) hdg hcs
  unfold va_wsS at hw
  rcases List.mem_append.mp hw with h | h
  · simp only [List.mem_cons, List.not_mem_nil, or_false] at h
    rcases h with rfl | rfl | rfl
    · exact o1
    · exact o2
    · exact o3
  · rcases List.mem_cons.mp h with rfl | h
    · exact o4
    · exact h
theorem q_ci {n2 : Nat} {post : Int32 → ST → Prop} (hr : va_Run p l e R s m args below meth c H locs cells slots 0 0 (F0 m pc ls st) rest (q_Qi X n2 σ post a) (q_reg X)) (hI : q_I X n σ0 H0 locs σ H) (hle : n ≤ n2)
    (kk : ∀ (r : Int32) (σ1 : ST) (H1 : Heap) (locs1 : List Loc), post r σ1 → q_K n2 X σ σ1 → q_I X n σ0 H0 locs1 σ1 H1 → W p l e R s m args below meth c H1 locs1 cells slots Q (F0 m (pc + 3) ls (.int r :: rest))) : W p l e R s m args below meth c H locs cells slots Q (F0 m pc ls st) := by
  refine va_calli hr hI.S (fun q _ h => h) (fun q h => h) (fun r u t H1 locs1 ht hal hp hB hz hk hS => ?_)
  obtain ⟨b1, b2, b3, b4⟩ := hB
  rw [ht] at b1
  exact kk r u H1 locs1 hp b4 ⟨hI.1, b1, b2, b3, hS, hI.K.tr (b4.le hle)⟩
theorem q_cl_ {n2 : Nat} {post : Int64 → ST → Prop} (hr : va_Run p l e R s m args below meth c H locs cells slots 0 0 (F0 m pc ls st) rest (q_Ql X n2 σ post a) (q_reg X)) (hI : q_I X n σ0 H0 locs σ H) (hle : n ≤ n2)
    (kk : ∀ (r : Int64) (σ1 : ST) (H1 : Heap) (locs1 : List Loc), post r σ1 → q_K n2 X σ σ1 → q_I X n σ0 H0 locs1 σ1 H1 → W p l e R s m args below meth c H1 locs1 cells slots Q (F0 m (pc + 3) ls (.long r :: rest))) : W p l e R s m args below meth c H locs cells slots Q (F0 m pc ls st) := by
  refine va_calll hr hI.S (fun q _ h => h) (fun q h => h) (fun r u t H1 locs1 ht hal hp hB hz hk hS => ?_)
  obtain ⟨b1, b2, b3, b4⟩ := hB
  rw [ht] at b1
  exact kk r u H1 locs1 hp b4 ⟨hI.1, b1, b2, b3, hS, hI.K.tr (b4.le hle)⟩
theorem q_cv {n2 : Nat} {post : ST → Prop} (hr : va_Run p l e R s m args below meth c H locs cells slots 0 0 (F0 m pc ls st) rest (q_Qv X n2 σ post a) (q_reg X)) (hI : q_I X n σ0 H0 locs σ H) (hle : n ≤ n2)
    (kk : ∀ (σ1 : ST) (H1 : Heap) (locs1 : List Loc), post σ1 → q_K n2 X σ σ1 → q_I X n σ0 H0 locs1 σ1 H1 → W p l e R s m args below meth c H1 locs1 cells slots Q (F0 m (pc + 3) ls rest)) : W p l e R s m args below meth c H locs cells slots Q (F0 m pc ls st) := by
  refine va_callv hr hI.S (fun q _ h => h) (fun q h => h) (fun u t H1 locs1 ht hal hp hB hz hk hS => ?_)
  obtain ⟨b1, b2, b3, b4⟩ := hB
  rw [ht] at b1
  exact kk u H1 locs1 hp b4 ⟨hI.1, b1, b2, b3, hS, hI.K.tr (b4.le hle)⟩
theorem q_cq {n2 : Nat} {post : Option Nat → ST → Prop} (hr : va_Run p l e R s m args below meth c H locs cells slots 0 0 (F0 m pc ls st) rest (q_Qq X n2 σ post a) (q_reg X)) (hI : q_I X n σ0 H0 locs σ H) (hle : n ≤ n2)
    (kk : ∀ (r : Option Nat) (σ1 : ST) (H1 : Heap) (locs1 : List Loc), post r σ1 → q_K n2 X σ σ1 → q_I X n σ0 H0 locs1 σ1 H1 → W p l e R s m args below meth c H1 locs1 cells slots Q (F0 m (pc + 3) ls (va_rf r :: rest))) : W p l e R s m args below meth c H locs cells slots Q (F0 m pc ls st) := by
  refine va_callq hr hI.S (fun q _ h => h) (fun q h => h) (fun r u t H1 locs1 ht hal hp hB hz hk hS => ?_)
  obtain ⟨b1, b2, b3, b4⟩ := hB
  rw [ht] at b1
  exact kk r u H1 locs1 hp b4 ⟨hI.1, b1, b2, b3, hS, hI.K.tr (b4.le hle)⟩
end QC
end
/-! FROM 04b.calls.lean.txt -/
section
/-- a static method of a nest mate -/
def q_okN (own : String) (index : Nat) (host : String) (y : MethodName) (bytes : ByteArray) (mL : Nat) (ret : Option FieldType) (n : Nat) : Prop :=
  (own, index, y, host) ∈ q_nest ∧ Cond.static y ∈ q_tbl ∧ Cond.initialized y.cls ∈ q_tbl ∧ Cond.code y bytes mL ret ∈ q_tbl ∧ (y.cls ≠ "java/lang/invoke/MethodHandle" ∧ y.cls ≠ "java/lang/invoke/VarHandle" ∧ (parseMethodDescriptor y.desc).map (fun d => d.parameters.length) = some n)
/-- a private method is what its own call selects, of a receiver of a subclass too -/
theorem q_selpriv {C : String} {x2 y : MethodName} {s : State} {args : Array Value} (h2 : (Cond.selects C x2 x2).before args s = true) (hcc : x2.cls = y.cls) (hy : y.cls ≠ "java/lang/invoke/MethodHandle" ∧ y.cls ≠ "java/lang/invoke/VarHandle") (hpriv : (Cond.privateMethod y).before args s = true) (hinst : (Cond.instanceMethod y).before args s = true) : (Cond.selects C y y).before args s = true := by
  obtain ⟨c, r, m2, hc, -, hn2, -, kM, hkM, hni⟩ := Cond.selects_spec h2
  obtain ⟨mk, methM, hnamed, hmethM, -, -⟩ := Cond.instanceMethod_spec hinst
  have hfound : s.methodFound? y.cls y.name y.desc = some mk := State.methodFound?_of_named hnamed hy
  have hcls : mk.cls = m2.cls := Option.some.inj ((findClass_of_methodNamed hnamed).symm.trans (by rw [← hcc]; exact findClass_of_methodNamed hn2))
  have hsel : selectMethod {} s.vm c mk = .method mk := selectMethod_private hmethM (Cond.privateMethod_at hpriv mk methM hnamed hmethM)
  first
  | (have e : (Cond.selects C y y).before args s = ((match s.vm.findClass C, s.methodFound? y.cls y.name y.desc, s.methodNamed? y with
      | some c, some r, some m => some (match selectMethod {} s.vm c r with
        | .method m' => decide (m' = m) && (s.vm.classes[m.cls]?).any (!·.isInterface)
        | _ => false)
      | _, _, _ => none) == some true) := rfl
     rw [e]
     simp only [hc, hfound, hnamed, hsel, hcls, hkM]
     simp
     exact hni)
  | (simp only [Cond.before, Cond.holds, Cond.value, hc, hfound, hnamed, hsel, hcls, hkM]
     simp
     exact hni)
/-- an inherited method y, called by the name x, of a receiver of class C -/
def q_okU2 (own : String) (index : Nat) (C owner : String) (x y : MethodName) (bytes : ByteArray) (mL : Nat) (ret : Option FieldType) (n : Nat) : Prop :=
  Cond.methodLink own index x ∈ q_tbl ∧ Cond.sameMethod x.cls owner x.name x.desc ∈ q_tbl ∧ Cond.selects C x y ∈ q_tbl ∧ Cond.instanceMethod y ∈ q_tbl ∧ Cond.initialized y.cls ∈ q_tbl ∧ Cond.code y bytes mL ret ∈ q_tbl ∧ (owner ≠ "java/lang/invoke/MethodHandle" ∧ owner ≠ "java/lang/invoke/VarHandle" ∧ (parseMethodDescriptor x.desc).map (fun d => d.parameters.length) = some n) ∧ y = ⟨owner, x.name, x.desc⟩
section QU
variable {p : Program} {l : Launch} {e : Env} {R : Room} {s : State} {m : MethodId} {args : Array Value} {below : List Frame} {meth : Method} {c : Code} {H : Heap} {locs : List Loc} {cells slots : Nat} {cc : ByteArray} {own : String} {X : XW} {n : Nat} {σ0 σ : ST} {pc : Nat} {ls : Array Slot} {rest st : List Value}
theorem q_pay (E : q_E p c cc s m args own X) {y : MethodName} {bytes : ByteArray} {mL : Nat} {ret : Option FieldType} (h : Cond.code y bytes mL ret ∈ q_tbl) : ∀ w ∈ q_ws y bytes mL ret, ∀ (a' : Array Value) (U : State), s.WarmedH U.vm → w.before a' U = true :=
  pay_in E.2.2.2.1 (q_goodIn fun w hw => (List.mem_cons.mp hw).elim (fun e => by rw [e]; exact h) id)
theorem q_runU (E : q_E p c cc s m args own X) (hml : c.maxLocals = ls.size) (hI : q_I X n σ0 s.heap locs σ H) {As : List Value} {b k ci N index mL na f w : Nat} {C owner : String} {T : u_T} {x y : MethodName} {bytes : ByteArray} {ret : Option FieldType} {Qc : Array Value → State → Outcome → State → Prop}
    (hM : Met l y (q_ws y bytes mL ret) (q_rm f w) (q_P X σ (.ref b :: As)) Qc 0 0 (q_reg X)) (ok : q_okU2 own index C owner x y bytes mL ret na) (hb : q_kd X b = k) (hk : k = ci + 1 ∧ k < 20) (hc : vwCl[ci]? = some (C, T, N)) (hn : As.length = na) (hR : f + 1 ≤ R.frames ∧ 8 + (mL + 11) + w ≤ R.locals) (hcs : cells ≤ R.cells ∧ slots ≤ R.slots)
    (hst : st = As.reverse ++ .ref b :: rest) (hW : (rest.map fun v => v.category).sum ≤ 8) (hdg : decode cc pc = .ok (.invokevirtual index, 3)) :
    va_Run p l e R s m args below meth c H locs cells slots 0 0 (F0 m pc ls st) rest (Qc (Value.ref b :: As).toArray) (q_reg X) := by
  obtain ⟨o1, o2, o3, o4, o5, o6, o7, o8⟩ := ok
  have hts := E.2.2.2.1
  have hsel : (Cond.selects C x y).before args s = true := hts _ o3
  have cw : va_CU R s args own C owner index x y bytes mL ret (q_ws y bytes mL ret) (q_rm f w) 0 0 na := by
    refine ⟨⟨rfl, rfl, hR.1, hR.2, q_pay E o6, List.mem_cons_self⟩, hts _ o6, hts _ o5, ⟨o7.1, o7.2.1⟩, fun sig h => ?_, hts _ o1, hts _ o2, ?_, hsel, hts _ o4⟩
    · have h2 := o7.2.2
      rw [h] at h2
      exact (Option.some.inj h2).symm
    · rw [← o8]
      exact va_Decl.of (hts _ o4) (hts _ o6)
  exact va_runU (nL := ls.size) (q_fix E hml) hM cw (q_preV E hI As hb hk hc) rfl hn rfl hst (lv_room hW) hdg hcs
/-- of a reader, of whichever of the two classes -/
theorem q_runR (E : q_E p c cc s m args own X) (hml : c.maxLocals = ls.size) (hI : q_I X n σ0 s.heap locs σ H) {As : List Value} {b index mL na f w : Nat} {owner : String} {x y : MethodName} {bytes : ByteArray} {ret : Option FieldType} {Qc : Array Value → State → Outcome → State → Prop}
    (hM : Met l y (q_ws y bytes mL ret) (q_rm f w) (q_P X σ (.ref b :: As)) Qc 0 0 (q_reg X)) (ok : q_okU2 own index RX4 owner x y bytes mL ret na ∧ q_okU2 own index RX9 owner x y bytes mL ret na) (hb : q_kd X b = 4 ∨ q_kd X b = 9) (hn : As.length = na) (hR : f + 1 ≤ R.frames ∧ 8 + (mL + 11) + w ≤ R.locals) (hcs : cells ≤ R.cells ∧ slots ≤ R.slots)
    (hst : st = As.reverse ++ .ref b :: rest) (hW : (rest.map fun v => v.category).sum ≤ 8) (hdg : decode cc pc = .ok (.invokevirtual index, 3)) :
    va_Run p l e R s m args below meth c H locs cells slots 0 0 (F0 m pc ls st) rest (Qc (Value.ref b :: As).toArray) (q_reg X) := by
  rcases hb with hb | hb
  · exact q_runU E hml hI hM ok.1 hb ⟨rfl, by decide⟩ (show vwCl[3]? = some (RX4, TX4, 11) from rfl) hn hR hcs hst hW hdg
  · exact q_runU E hml hI hM ok.2 hb ⟨rfl, by decide⟩ (show vwCl[8]? = some (RX9, TX9, 12) from rfl) hn hR hcs hst hW hdg
theorem q_runN (E : q_E p c cc s m args own X) (hml : c.maxLocals = ls.size) (hI : q_I X n σ0 s.heap locs σ H) {As : List Value} {index mL na f w : Nat} {host : String} {y : MethodName} {bytes : ByteArray} {ret : Option FieldType} {Qc : Array Value → State → Outcome → State → Prop}
    (hM : Met l y (q_ws y bytes mL ret) (q_rm f w) (q_P X σ As) Qc 0 0 (q_reg X)) (ok : q_okN own index host y bytes mL ret na) (hn : As.length = na) (hR : f + 1 ≤ R.frames ∧ 8 + (mL + 11) + w ≤ R.locals) (hcs : cells ≤ R.cells ∧ slots ≤ R.slots)
    (hst : st = As.reverse ++ rest) (hW : (rest.map fun v => v.category).sum ≤ 8) (hdg : decode cc pc = .ok (.invokestatic index, 3)) :
    va_Run p l e R s m args below meth c H locs cells slots 0 0 (F0 m pc ls st) rest (Qc As.toArray) (q_reg X) := by
  obtain ⟨o1, o2, o3, o4, o5⟩ := ok
  have hl : va_Nw (.methodLinkNest own index y host) s := E.2.2.2.2.1.2.1 _ o1
  refine va_runSN (nL := ls.size) (q_fix E hml) hM ⟨va_cnB na E.2.2.2.1 (q_goodIn fun w hw => (List.mem_cons.mp hw).elim (fun e => by rw [e]; exact o4) id) rfl rfl rfl hl (E.2.2.2.1 _ o3) o5 hR, E.2.2.2.1 _ o2, trivial⟩ (q_preS E hI As) rfl hn rfl hst (lv_room hW) hdg hcs
end QU
end
/-! FROM 04c.calls.lean.txt -/
section
theorem q_inc {x z : Int32} (e : z = x + 1) (h : x.toInt < 2147483647) : z.toInt = x.toInt + 1 := by
  have h0 := q_rng x
  have h1 : (1 : Int32).toInt = 1 := rfl
  have h2 := q_add e (by rw [h1]; omega) (by rw [h1]; omega)
  rw [h2, h1]
theorem q_dec {x z : Int32} (e : z = x + (-1)) (h : -2147483648 < x.toInt) : z.toInt = x.toInt - 1 := by
  have h0 := q_rng x
  have h1 : (-1 : Int32).toInt = -1 := rfl
  have h2 := q_add e (by rw [h1]; omega) (by rw [h1]; omega)
  rw [h2, h1]
  omega
section QT
variable {p : Program} {l : Launch} {e : Env} {R : Room} {s : State} {m : MethodId} {args : Array Value} {below : List Frame} {meth : Method} {c : Code} {H : Heap} {locs : List Loc} {cells slots : Nat} {cc : ByteArray} {own : String} {X : XW} {n : Nat} {σ0 σ : ST} {pc : Nat} {ls : Array Slot} {rest st : List Value}
/-- a call on a String constant -/
theorem q_runT (E : q_E p c cc s m args own X) (hml : c.maxLocals = ls.size) (hI : q_I X n σ0 s.heap locs σ H) {As : List Value} {i index mL na f w : Nat} {y : MethodName} {bytes : ByteArray} {ret : Option FieldType} {Qc : Array Value → State → Outcome → State → Prop}
    (hM : Met l y (q_ws y bytes mL ret) (q_rm f w) (q_P X σ (.ref (q_sk X i) :: As)) Qc 0 0 (q_reg X)) (ok : q_okV own index "java/lang/String" y bytes mL ret na) (hi : i < 22) (hn : As.length = na) (hR : f + 1 ≤ R.frames ∧ 8 + (mL + 11) + w ≤ R.locals) (hcs : cells ≤ R.cells ∧ slots ≤ R.slots)
    (hst : st = As.reverse ++ .ref (q_sk X i) :: rest) (hW : (rest.map fun v => v.category).sum ≤ 8) (hdg : decode cc pc = .ok (.invokevirtual index, 3)) :
    va_Run p l e R s m args below meth c H locs cells slots 0 0 (F0 m pc ls st) rest (Qc (Value.ref (q_sk X i) :: As).toArray) (q_reg X) := by
  obtain ⟨o1, o2, o3, o4, o5, o6⟩ := ok
  refine va_runV (nL := ls.size) (q_fix E hml) hM (cwV na E.2.2.2.1 (q_goodIn fun w hw => ?_) rfl rfl rfl o6 hR) ⟨q_blind, vk_recv E.2.2.2.2.2.1 hi hI.S, (q_preS E hI (.ref (q_sk X i) :: As)).2⟩ rfl hn rfl hst (lv_room hW) hdg hcs
  unfold wsV at hw
  rcases List.mem_append.mp hw with h | h
  · simp only [List.mem_cons, List.not_mem_nil, or_false] at h
    rcases h with rfl | rfl | rfl | rfl
    · exact o1
    · exact o2
    · exact o3
    · exact o4
  · rcases List.mem_cons.mp h with rfl | h
    · exact o5
    · exact h
end QT
theorem q_in_all {C : String} {T : u_T} {N : Nat} (h : ∀ k, k < N → u_lay C T k ∈ q_tbl) : ∀ w ∈ u_ws C T N, w ∈ q_tbl := fun w hw => by
  obtain ⟨k, hk, e⟩ := List.mem_map.mp hw
  rw [← e]
  exact h k (List.mem_range.mp hk)
theorem q_inX0 : ∀ w ∈ u_ws RX0 TX0 15, w ∈ q_tbl := q_in_all (fun k hk => match k, hk with
  | 0, _ => q_in_t2 (i := 26) (by first | rfl | decide +kernel) rfl
  | 1, _ => q_in_t2 (i := 28) (by first | rfl | decide +kernel) rfl
  | 2, _ => q_in_t2 (i := 30) (by first | rfl | decide +kernel) rfl
  | 3, _ => q_in_t2 (i := 32) (by first | rfl | decide +kernel) rfl
  | 4, _ => q_in_t2 (i := 34) (by first | rfl | decide +kernel) rfl
  | 5, _ => q_in_t2 (i := 36) (by first | rfl | decide +kernel) rfl
  | 6, _ => q_in_t2 (i := 38) (by first | rfl | decide +kernel) rfl
  | 7, _ => q_in_t2 (i := 40) (by first | rfl | decide +kernel) rfl
  | 8, _ => q_in_t2 (i := 42) (by first | rfl | decide +kernel) rfl
  | 9, _ => q_in_t2 (i := 44) (by first | rfl | decide +kernel) rfl
  | 10, _ => q_in_t2 (i := 46) (by first | rfl | decide +kernel) rfl
  | 11, _ => q_in_t2 (i := 48) (by first | rfl | decide +kernel) rfl
  | 12, _ => q_in_t2 (i := 50) (by first | rfl | decide +kernel) rfl
  | 13, _ => q_in_t2 (i := 52) (by first | rfl | decide +kernel) rfl
  | 14, _ => q_in_t2 (i := 54) (by first | rfl | decide +kernel) rfl
  | k + 15, hk => absurd hk (by omega))
theorem q_inX1 : ∀ w ∈ u_ws RX1 TX1 7, w ∈ q_tbl := q_in_all (fun k hk => match k, hk with
  | 0, _ => q_in_t1 (i := 130) (by first | rfl | decide +kernel) rfl
  | 1, _ => q_in_t1 (i := 132) (by first | rfl | decide +kernel) rfl
  | 2, _ => q_in_t1 (i := 134) (by first | rfl | decide +kernel) rfl
  | 3, _ => q_in_t1 (i := 136) (by first | rfl | decide +kernel) rfl
  | 4, _ => q_in_t1 (i := 138) (by first | rfl | decide +kernel) rfl
  | 5, _ => q_in_t1 (i := 140) (by first | rfl | decide +kernel) rfl
  | 6, _ => q_in_t1 (i := 142) (by first | rfl | decide +kernel) rfl
  | k + 7, hk => absurd hk (by omega))
theorem q_inX2 : ∀ w ∈ u_ws RX2 TX2 6, w ∈ q_tbl := q_in_all (fun k hk => match k, hk with
  | 0, _ => q_in_t1 (i := 166) (by first | rfl | decide +kernel) rfl
  | 1, _ => q_in_t1 (i := 168) (by first | rfl | decide +kernel) rfl
  | 2, _ => q_in_t1 (i := 170) (by first | rfl | decide +kernel) rfl
  | 3, _ => q_in_t1 (i := 172) (by first | rfl | decide +kernel) rfl
  | 4, _ => q_in_t1 (i := 174) (by first | rfl | decide +kernel) rfl
  | 5, _ => q_in_t1 (i := 176) (by first | rfl | decide +kernel) rfl
  | k + 6, hk => absurd hk (by omega))
theorem q_inX4 : ∀ w ∈ u_ws RX4 TX4 11, w ∈ q_tbl := q_in_all (fun k hk => match k, hk with
  | 0, _ => q_in_t2 (i := 137) (by first | rfl | decide +kernel) rfl
  | 1, _ => q_in_t2 (i := 138) (by first | rfl | decide +kernel) rfl
  | 2, _ => q_in_t2 (i := 139) (by first | rfl | decide +kernel) rfl
  | 3, _ => q_in_t2 (i := 140) (by first | rfl | decide +kernel) rfl
  | 4, _ => q_in_t2 (i := 141) (by first | rfl | decide +kernel) rfl
  | 5, _ => q_in_t2 (i := 142) (by first | rfl | decide +kernel) rfl
  | 6, _ => q_in_t2 (i := 143) (by first | rfl | decide +kernel) rfl
  | 7, _ => q_in_t2 (i := 144) (by first | rfl | decide +kernel) rfl
  | 8, _ => q_in_t2 (i := 131) (by first | rfl | decide +kernel) rfl
  | 9, _ => q_in_t2 (i := 133) (by first | rfl | decide +kernel) rfl
  | 10, _ => q_in_t2 (i := 135) (by first | rfl | decide +kernel) rfl
  | k + 11, hk => absurd hk (by omega))
theorem q_inX5 : ∀ w ∈ u_ws RX5 TX5 1, w ∈ q_tbl := q_in_all (fun k hk => match k, hk with
  | 0, _ => q_in_t1 (i := 52) (by first | rfl | decide +kernel) rfl
  | k + 1, hk => absurd hk (by omega))
theorem q_inX6 : ∀ w ∈ u_ws RX6 TX6 8, w ∈ q_tbl := q_in_all (fun k hk => match k, hk with
  | 0, _ => q_in_t1 (i := 84) (by first | rfl | decide +kernel) rfl
  | 1, _ => q_in_t1 (i := 86) (by first | rfl | decide +kernel) rfl
  | 2, _ => q_in_t1 (i := 88) (by first | rfl | decide +kernel) rfl
  | 3, _ => q_in_t1 (i := 90) (by first | rfl | decide +kernel) rfl
  | 4, _ => q_in_t1 (i := 92) (by first | rfl | decide +kernel) rfl
  | 5, _ => q_in_t1 (i := 94) (by first | rfl | decide +kernel) rfl
  | 6, _ => q_in_t1 (i := 96) (by first | rfl | decide +kernel) rfl
  | 7, _ => q_in_t1 (i := 98) (by first | rfl | decide +kernel) rfl
  | k + 8, hk => absurd hk (by omega))
theorem q_inX7 : ∀ w ∈ u_ws RX7 TX7 8, w ∈ q_tbl := q_in_all (fun k hk => match k, hk with
  | 0, _ => q_in_t2 (i := 168) (by first | rfl | decide +kernel) rfl
  | 1, _ => q_in_t2 (i := 170) (by first | rfl | decide +kernel) rfl
  | 2, _ => q_in_t2 (i := 172) (by first | rfl | decide +kernel) rfl
  | 3, _ => q_in_t2 (i := 174) (by first | rfl | decide +kernel) rfl
  | 4, _ => q_in_t2 (i := 176) (by first | rfl | decide +kernel) rfl
  | 5, _ => q_in_t2 (i := 178) (by first | rfl | decide +kernel) rfl
  | 6, _ => q_in_t2 (i := 180) (by first | rfl | decide +kernel) rfl
  | 7, _ => q_in_t2 (i := 182) (by first | rfl | decide +kernel) rfl
  | k + 8, hk => absurd hk (by omega))
theorem q_inX8 : ∀ w ∈ u_ws RX8 TX8 8, w ∈ q_tbl := q_in_all (fun k hk => match k, hk with
  | 0, _ => q_in_t1 (i := 209) (by first | rfl | decide +kernel) rfl
  | 1, _ => q_in_t1 (i := 211) (by first | rfl | decide +kernel) rfl
  | 2, _ => q_in_t1 (i := 213) (by first | rfl | decide +kernel) rfl
  | 3, _ => q_in_t1 (i := 215) (by first | rfl | decide +kernel) rfl
  | 4, _ => q_in_t1 (i := 217) (by first | rfl | decide +kernel) rfl
  | 5, _ => q_in_t1 (i := 219) (by first | rfl | decide +kernel) rfl
  | 6, _ => q_in_t1 (i := 221) (by first | rfl | decide +kernel) rfl
  | 7, _ => q_in_t1 (i := 223) (by first | rfl | decide +kernel) rfl
  | k + 8, hk => absurd hk (by omega))
theorem q_inX9 : ∀ w ∈ u_ws RX9 TX9 12, w ∈ q_tbl := q_in_all (fun k hk => match k, hk with
  | 0, _ => q_in_t2 (i := 100) (by first | rfl | decide +kernel) rfl
  | 1, _ => q_in_t2 (i := 102) (by first | rfl | decide +kernel) rfl
  | 2, _ => q_in_t2 (i := 104) (by first | rfl | decide +kernel) rfl
  | 3, _ => q_in_t2 (i := 106) (by first | rfl | decide +kernel) rfl
  | 4, _ => q_in_t2 (i := 108) (by first | rfl | decide +kernel) rfl
  | 5, _ => q_in_t2 (i := 110) (by first | rfl | decide +kernel) rfl
  | 6, _ => q_in_t2 (i := 112) (by first | rfl | decide +kernel) rfl
  | 7, _ => q_in_t2 (i := 114) (by first | rfl | decide +kernel) rfl
  | 8, _ => q_in_t2 (i := 92) (by first | rfl | decide +kernel) rfl
  | 9, _ => q_in_t2 (i := 94) (by first | rfl | decide +kernel) rfl
  | 10, _ => q_in_t2 (i := 96) (by first | rfl | decide +kernel) rfl
  | 11, _ => q_in_t2 (i := 98) (by first | rfl | decide +kernel) rfl
  | k + 12, hk => absurd hk (by omega))
theorem q_inX10 : ∀ w ∈ u_ws RX10 TX10 3, w ∈ q_tbl := q_in_all (fun k hk => match k, hk with
  | 0, _ => q_in_t2 (i := 194) (by first | rfl | decide +kernel) rfl
  | 1, _ => q_in_t2 (i := 196) (by first | rfl | decide +kernel) rfl
  | 2, _ => q_in_t2 (i := 198) (by first | rfl | decide +kernel) rfl
  | k + 3, hk => absurd hk (by omega))
theorem q_inX11 : ∀ w ∈ u_ws RX11 TX11 17, w ∈ q_tbl := q_in_all (fun k hk => match k, hk with
  | 0, _ => q_in_t2 (i := 219) (by first | rfl | decide +kernel) rfl
  | 1, _ => q_in_t2 (i := 221) (by first | rfl | decide +kernel) rfl
  | 2, _ => q_in_t2 (i := 223) (by first | rfl | decide +kernel) rfl
  | 3, _ => q_in_t2 (i := 225) (by first | rfl | decide +kernel) rfl
  | 4, _ => q_in_t2 (i := 227) (by first | rfl | decide +kernel) rfl
  | 5, _ => q_in_t2 (i := 229) (by first | rfl | decide +kernel) rfl
  | 6, _ => q_in_t2 (i := 231) (by first | rfl | decide +kernel) rfl
  | 7, _ => q_in_t2 (i := 233) (by first | rfl | decide +kernel) rfl
  | 8, _ => q_in_t2 (i := 235) (by first | rfl | decide +kernel) rfl
  | 9, _ => q_in_t2 (i := 237) (by first | rfl | decide +kernel) rfl
  | 10, _ => q_in_t2 (i := 239) (by first | rfl | decide +kernel) rfl
  | 11, _ => q_in_t3 (i := 1) (by first | rfl | decide +kernel) rfl
  | 12, _ => q_in_t3 (i := 3) (by first | rfl | decide +kernel) rfl
  | 13, _ => q_in_t3 (i := 5) (by first | rfl | decide +kernel) rfl
  | 14, _ => q_in_t3 (i := 7) (by first | rfl | decide +kernel) rfl
  | 15, _ => q_in_t3 (i := 9) (by first | rfl | decide +kernel) rfl
  | 16, _ => q_in_t3 (i := 11) (by first | rfl | decide +kernel) rfl
  | k + 17, hk => absurd hk (by omega))
theorem q_inX12 : ∀ w ∈ u_ws RX12 TX12 46, w ∈ q_tbl := q_in_all (fun k hk => match k, hk with
  | 0, _ => q_in_t7 (i := 31) (by first | rfl | decide +kernel) rfl
  | 1, _ => q_in_t7 (i := 33) (by first | rfl | decide +kernel) rfl
  | 2, _ => q_in_t7 (i := 35) (by first | rfl | decide +kernel) rfl
  | 3, _ => q_in_t7 (i := 37) (by first | rfl | decide +kernel) rfl
  | 4, _ => q_in_t7 (i := 39) (by first | rfl | decide +kernel) rfl
  | 5, _ => q_in_t7 (i := 41) (by first | rfl | decide +kernel) rfl
  | 6, _ => q_in_t7 (i := 43) (by first | rfl | decide +kernel) rfl
  | 7, _ => q_in_t7 (i := 45) (by first | rfl | decide +kernel) rfl
  | 8, _ => q_in_t7 (i := 47) (by first | rfl | decide +kernel) rfl
  | 9, _ => q_in_t7 (i := 49) (by first | rfl | decide +kernel) rfl
  | 10, _ => q_in_t7 (i := 51) (by first | rfl | decide +kernel) rfl
  | 11, _ => q_in_t7 (i := 53) (by first | rfl | decide +kernel) rfl
  | 12, _ => q_in_t7 (i := 55) (by first | rfl | decide +kernel) rfl
  | 13, _ => q_in_t7 (i := 57) (by first | rfl | decide +kernel) rfl
  | 14, _ => q_in_t7 (i := 59) (by first | rfl | decide +kernel) rfl
  | 15, _ => q_in_t7 (i := 61) (by first | rfl | decide +kernel) rfl
  | 16, _ => q_in_t7 (i := 63) (by first | rfl | decide +kernel) rfl
  | 17, _ => q_in_t7 (i := 65) (by first | rfl | decide +kernel) rfl
  | 18, _ => q_in_t7 (i := 67) (by first | rfl | decide +kernel) rfl
  | 19, _ => q_in_t7 (i := 69) (by first | rfl | decide +kernel) rfl
  | 20, _ => q_in_t7 (i := 71) (by first | rfl | decide +kernel) rfl
  | 21, _ => q_in_t7 (i := 73) (by first | rfl | decide +kernel) rfl
  | 22, _ => q_in_t7 (i := 75) (by first | rfl | decide +kernel) rfl
  | 23, _ => q_in_t7 (i := 77) (by first | rfl | decide +kernel) rfl
  | 24, _ => q_in_t7 (i := 79) (by first | rfl | decide +kernel) rfl
  | 25, _ => q_in_t7 (i := 81) (by first | rfl | decide +kernel) rfl
  | 26, _ => q_in_t7 (i := 83) (by first | rfl | decide +kernel) rfl
  | 27, _ => q_in_t7 (i := 85) (by first | rfl | decide +kernel) rfl
  | 28, _ => q_in_t7 (i := 87) (by first | rfl | decide +kernel) rfl
  | 29, _ => q_in_t7 (i := 89) (by first | rfl | decide +kernel) rfl
  | 30, _ => q_in_t7 (i := 91) (by first | rfl | decide +kernel) rfl
  | 31, _ => q_in_t7 (i := 93) (by first | rfl | decide +kernel) rfl
  | 32, _ => q_in_t7 (i := 95) (by first | rfl | decide +kernel) rfl
  | 33, _ => q_in_t7 (i := 97) (by first | rfl | decide +kernel) rfl
  | 34, _ => q_in_t7 (i := 99) (by first | rfl | decide +kernel) rfl
  | 35, _ => q_in_t7 (i := 101) (by first | rfl | decide +kernel) rfl
  | 36, _ => q_in_t7 (i := 103) (by first | rfl | decide +kernel) rfl
  | 37, _ => q_in_t7 (i := 105) (by first | rfl | decide +kernel) rfl
  | 38, _ => q_in_t7 (i := 107) (by first | rfl | decide +kernel) rfl
  | 39, _ => q_in_t7 (i := 109) (by first | rfl | decide +kernel) rfl
  | 40, _ => q_in_t7 (i := 111) (by first | rfl | decide +kernel) rfl
  | 41, _ => q_in_t7 (i := 113) (by first | rfl | decide +kernel) rfl
  | 42, _ => q_in_t7 (i := 115) (by first | rfl | decide +kernel) rfl
  | 43, _ => q_in_t7 (i := 117) (by first | rfl | decide +kernel) rfl
  | 44, _ => q_in_t7 (i := 119) (by first | rfl | decide +kernel) rfl
  | 45, _ => q_in_t7 (i := 121) (by first | rfl | decide +kernel) rfl
  | k + 46, hk => absurd hk (by omega))
end
/-! FROM 04d.more.lean.txt -/
section
/-! cells kept but for those of S -/
def q_KS (S : Nat → Nat → Prop) (n : Nat) (X : XW) (σ σ' : ST) : Prop := ∀ b g, q_cl (q_kd X b) g ≤ n → ¬ S b g → σ'.1 b g = σ.1 b g
theorem q_KS.rf {S : Nat → Nat → Prop} {n : Nat} {X : XW} {σ : ST} : q_KS S n X σ σ := fun _ _ _ _ => rfl
theorem q_KS.si {S : Nat → Nat → Prop} {n : Nat} {X : XW} {σ τ τ' : ST} {a k f : Nat} {v : Int32} (h : q_KS S n X σ τ) (e : τ' = q_si τ a f v) (ha : q_kd X a = k) (hc : n < q_cl k f) : q_KS S n X σ τ' := by
  intro b g q hs
  rw [e]
  show (if b = a ∧ g = f then v else τ.1 b g) = _
  rw [if_neg]
  · exact h b g q hs
  · rintro ⟨rfl, rfl⟩
    rw [ha] at q
    omega
theorem q_KS.siS {S : Nat → Nat → Prop} {n : Nat} {X : XW} {σ τ τ' : ST} {a f : Nat} {v : Int32} (h : q_KS S n X σ τ) (e : τ' = q_si τ a f v) (hS : S a f) : q_KS S n X σ τ' := by
  intro b g q hs
  rw [e]
  show (if b = a ∧ g = f then v else τ.1 b g) = _
  rw [if_neg]
  · exact h b g q hs
  · rintro ⟨rfl, rfl⟩
    exact hs hS
theorem q_KS.sl {S : Nat → Nat → Prop} {n : Nat} {X : XW} {σ τ τ' : ST} {a f : Nat} {v : Int64} (h : q_KS S n X σ τ) (e : τ' = q_sl τ a f v) : q_KS S n X σ τ' := by
  intro b g q hs
  rw [e]
  exact h b g q hs
theorem q_KS.st {S : Nat → Nat → Prop} {n : Nat} {X : XW} {σ τ τ' : ST} {a v : Nat} (h : q_KS S n X σ τ) (e : τ' = q_st τ a v) : q_KS S n X σ τ' := by
  intro b g q hs
  rw [e]
  exact h b g q hs
theorem q_KS.K {S : Nat → Nat → Prop} {n n2 : Nat} {X : XW} {σ τ τ' : ST} (h : q_KS S n X σ τ) (h2 : q_K n2 X τ τ') (hn : n ≤ n2) : q_KS S n X σ τ' := by
  intro b g q hs
  rw [h2 b g (Nat.le_trans q hn)]
  exact h b g q hs
theorem q_KS.KS {S S2 : Nat → Nat → Prop} {n n2 : Nat} {X : XW} {σ τ τ' : ST} (h : q_KS S n X σ τ) (h2 : q_KS S2 n2 X τ τ') (hn : n ≤ n2) (hs2 : ∀ b g, S2 b g → S b g) : q_KS S n X σ τ' := by
  intro b g q hs
  rw [h2 b g (Nat.le_trans q hn) (fun z => hs (hs2 b g z))]
  exact h b g q hs
/-- a cell read behind a put -/
theorem q_rd {τ τ' : ST} {a f : Nat} {v : Int32} (e : τ' = q_si τ a f v) : τ'.1 a f = v := by
  rw [e]
  show (if a = a ∧ f = f then v else _) = v
  rw [if_pos ⟨rfl, rfl⟩]
theorem q_rdn {τ τ' : ST} {a b f g : Nat} {v : Int32} (e : τ' = q_si τ a f v) (h : b ≠ a ∨ g ≠ f) : τ'.1 b g = τ.1 b g := by
  rw [e]
  show (if b = a ∧ g = f then v else τ.1 b g) = _
  rw [if_neg]
  rintro ⟨h1, h2⟩
  rcases h with h | h
  · exact h h1
  · exact h h2
theorem q_rdl {τ τ' : ST} {a b f g : Nat} {v : Int64} (e : τ' = q_sl τ a f v) : τ'.1 b g = τ.1 b g := by rw [e]; rfl
section QZ
variable {p : Program} {l : Launch} {e : Env} {R : Room} {s : State} {m : MethodId} {args : Array Value} {below : List Frame} {meth : Method} {c : Code} {H : Heap} {locs : List Loc} {cells slots : Nat} {Q : State → Prop} {cc : ByteArray} {own : String} {X : XW} {n : Nat} {σ0 σ : ST} {pc : Nat} {ls : Array Slot} {rest : List Value} {a : Nat}
/-- a return that is narrowed to its own type -/
theorem q_retn (E : q_E p c cc s m args own X) {ty : FieldType} (hr : meth.sig.returnType = some ty) (hlk : meth.locks = false) (hI : q_I X n σ0 s.heap locs σ H) {post : Int32 → ST → Prop} {v : Int32} (hn : narrow ty (.int v) = .int v) (hp : post v σ) (hdg : decode cc pc = .ok (.ireturn, 1)) : W p l e R s m args below meth c H locs cells slots (MQ below (q_Qi X n σ0 post) args s cells slots (q_reg X)) (F0 m pc ls [.int v]) :=
  W.zret E.1 E.2.1 hr hn (fun t ht _ => ⟨⟨v, σ, rfl, hp, by show q_Post X n σ0 σ t.heap; rw [ht]; exact hI.post⟩, hI.S.F ht⟩) hI.S.2.2 hdg hlk
/-- System.arraycopy of longs, of one row into another or the same -/
theorem q_copyl (E : q_E p c cc s m args own X) (hml : c.maxLocals = ls.size) (hI : q_I X n σ0 s.heap locs σ H) {a0 index : Nat} (h0 : q_kd X a0 = 21) (h1 : q_kd X a = 21) (hlink : Cond.methodLink own index arraycopyName ∈ q_tbl) (hnat : Cond.native arraycopyName ∈ q_tbl) (hstat : Cond.static arraycopyName ∈ q_tbl) (hini : Cond.initialized "java/lang/System" ∈ q_tbl)
    {sp dp z : Int32} (g1 : 0 ≤ sp.toInt) (g2 : 0 ≤ dp.toInt) (g3 : 0 ≤ z.toInt) (g4 : sp.toInt + z.toInt ≤ 60) (g5 : dp.toInt + z.toInt ≤ 60) (hframes : 1 ≤ R.frames) (hlocals : (rest.map fun v => v.category).sum + (nativeFrameWords "java/lang/System" "arraycopy" 5 + 11) ≤ R.locals) (hdg : decode cc pc = .ok (.invokestatic index, 3)) (hcs : cells ≤ R.cells ∧ slots ≤ R.slots)
    (kk : ∀ (H1 : Heap) (locs1 : List Loc) (σ1 : ST), σ1 = (σ.1, (fun b g => if b = a then va_cpy (σ.2.1 a0) (σ.2.1 a) sp.toNatClampNeg dp.toNatClampNeg z.toNatClampNeg g else σ.2.1 b g, σ.2.2)) → q_I X n σ0 s.heap locs1 σ1 H1 → W p l e R s m args below meth c H1 locs1 cells slots Q (F0 m (pc + 3) ls rest)) : W p l e R s m args below meth c H locs cells slots Q (F0 m pc ls (.int z :: .int dp :: .ref a :: .int sp :: .ref a0 :: rest)) := by
  obtain ⟨hx, hb, hown, hts, ⟨hK, -, -⟩, -⟩ := E
  have e0 := q_arr hI h0 (by decide)
  have e1 := q_arr hI h1 (by decide)
  have l0 : q_ln X a0 = 60 := q_lnk hI h0 rfl (by decide)
  have l1 : q_ln X a = 60 := q_lnk hI h1 rfl (by decide)
  rw [l0] at e0
  rw [l1] at e1
  have nl : ∀ w : Int32, 0 ≤ w.toInt → ¬ w < 0 := fun w h => by rw [Int32.lt_iff_toInt_lt, q_z0]; omega
  have nn : ∀ w : Int32, 0 ≤ w.toInt → (w.toNatClampNeg : Int) = w.toInt := fun w h => by rw [q_cn]; omega
  have k4 : sp.toNatClampNeg + z.toNatClampNeg ≤ 60 := by have := nn sp g1; have := nn z g3; omega
  have k5 : dp.toNatClampNeg + z.toNatClampNeg ≤ 60 := by have := nn dp g2; have := nn z g3; omega
  have fin : ∀ (H1 : Heap) (locs1 : List Loc), H1[a]? = some (vp_cell (q_gA X 2) (60, .inr (.inl (va_cpy (σ.2.1 a0) (σ.2.1 a) sp.toNatClampNeg dp.toNatClampNeg z.toNatClampNeg)))) → (∀ q : Nat, q ≠ a → q_kd X q ≠ 0 → H1[q]? = H[q]?) → va_S (q_reg X) s.heap H1 locs1 → W p l e R s m args below meth c H1 locs1 cells slots Q (F0 m (pc + 3) ls rest) := by
    intro H1 locs1 c1 oq hS
    obtain ⟨i1, i2, i3, i4, i5, i6⟩ := hI
    refine kk H1 locs1 _ rfl ⟨i1, fun b hb => ?_, i3, i4, hS, fun b g q => i6 b g q⟩
    by_cases hba : b = a
    · subst hba
      refine ⟨fun h => absurd h (by omega), fun _ => ?_⟩
      have he : q_et 21 = 2 := rfl
      have hav : q_av X (σ.1, (fun d g => if d = b then va_cpy (σ.2.1 a0) (σ.2.1 b) sp.toNatClampNeg dp.toNatClampNeg z.toNatClampNeg g else σ.2.1 d g, σ.2.2)) 21 b = fun j => Value.long (va_cpy (σ.2.1 a0) (σ.2.1 b) sp.toNatClampNeg dp.toNatClampNeg z.toNatClampNeg j) := by
        funext g
        unfold q_av
        rw [he]
        simp
      rw [c1, l1, h1, he, hav, vp_cell_l]
    · exact (i2 b hb).ne (fun _ => rfl) (fun g => by show (if b = a then _ else _) = _; rw [if_neg hba]) rfl (oq b hba hb)
  have e0' : H[a0]? = some (arrV (q_gA X 2) 60 (fun j => .long (σ.2.1 a0 j))) := e0
  have e1' : H[a]? = some (arrV (q_gA X 2) 60 (fun j => .long (σ.2.1 a j))) := e1
  intro T hT Z
  obtain ⟨-, k0, hk0, cm0, hkk0⟩ := (q_kx_ty hK (t := 2) rfl) 60 (fun j => .long (σ.2.1 a0 j))
  obtain ⟨-, k1, hk1, cm1, hkk1⟩ := (q_kx_ty hK (t := 2) rfl) 60 (fun j => .long (σ.2.1 a j))
  obtain ⟨vm', Z', step⟩ := Z.arraycopy hx hown (hts _ hlink) (hts _ hnat) (hts _ hstat) (hts _ hini) (src := a0) (dst := a) (srcPos := sp) (destPos := dp) (n := z) (by rw [hT]; exact e0') (by rw [hT]; exact e1')
    (fun _ h => by cases h) (fun _ h => by cases h) (fun h => by cases h) (fun h => by cases h) hk0 hk1 hkk0 hkk1 rfl (nl _ g1) (nl _ g2) (nl _ g3)
    (by rw [arrV_size]; omega) (by rw [arrV_size]; omega)
    (fun vm₁ _ i hi => by
      have e : (arrV (q_gA X 2) 60 (fun j => .long (σ.2.1 a0 j))).slots.getD (sp.toNatClampNeg + i) .null = .long (σ.2.1 a0 (sp.toNatClampNeg + i)) := by
        rw [Array.getD_eq_getD_getElem?, arrV_read _ _ (by omega)]
        rfl
      rw [e]
      exact ⟨rfl, trivial⟩)
    (g := F0 m pc ls (.int z :: .int dp :: .ref a :: .int sp :: .ref a0 :: rest)) rfl (by rw [hml]) (rest := rest) rfl (by rw [hb]; exact hdg) hframes (by show 2 * 0 + _ + _ ≤ _; omega)
  have ec : copied (arrV (q_gA X 2) 60 (fun j => .long (σ.2.1 a0 j))) (arrV (q_gA X 2) 60 (fun j => .long (σ.2.1 a j))) sp dp z = arrV (q_gA X 2) 60 (fun j => .long (va_cpy (σ.2.1 a0) (σ.2.1 a) sp.toNatClampNeg dp.toNatClampNeg z.toNatClampNeg j)) := va_copied (fun z => .long z) (q_gA X 2) (q_gA X 2) (σ.2.1 a0) (σ.2.1 a) k4
  rw [ec] at Z' step
  have hl : a < H.size := (Array.getElem?_eq_some_iff.mp e1').1
  have hheap : ((T.setVm vm').setCell a (arrV (q_gA X 2) 60 (fun j => .long (va_cpy (σ.2.1 a0) (σ.2.1 a) sp.toNatClampNeg dp.toNatClampNeg z.toNatClampNeg j)))).heap = H.setIfInBounds a (arrV (q_gA X 2) 60 (fun j => .long (va_cpy (σ.2.1 a0) (σ.2.1 a) sp.toNatClampNeg dp.toNatClampNeg z.toNatClampNeg j))) := by rw [← hT]; rfl
  have oq : ∀ q : Nat, q ≠ a → (H.setIfInBounds a (arrV (q_gA X 2) 60 (fun j => .long (va_cpy (σ.2.1 a0) (σ.2.1 a) sp.toNatClampNeg dp.toNatClampNeg z.toNatClampNeg j))))[q]? = H[q]? := fun q hq => by simp [Array.getElem?_setIfInBounds, Ne.symm hq]
  obtain ⟨t, a1, b1⟩ := fin _ _ (show (H.setIfInBounds a _)[a]? = some _ by rw [vp_cell_l]; simp [Array.getElem?_setIfInBounds, hl]) (fun q g1 _ => oq q g1) ⟨by simp; exact hI.S.1, fun q g1 g2 => by
      rw [oq q (fun e => g2 (by rw [e]; show q_kd X a ≠ 0; omega))]
      exact hI.S.2.1 q g1 g2, fun q hq => by
      rcases List.mem_append.mp hq with h | h
      · exact hI.S.2.2 q h
      · obtain ⟨w, -, hw⟩ := List.mem_map.mp h
        rw [← hw]
        show q_kd X a ≠ 0
        omega⟩ _ hheap Z'
  exact ⟨t, step t a1, b1⟩
end QZ
theorem q_slen_lt (i : Nat) : q_slen.getD i 0 < 2 ^ 31 := by
  have h : ∀ j, j < 22 → q_slen.getD j 0 < 2 ^ 31 := by decide
  rcases Nat.lt_or_ge i 22 with hi | hi
  · exact h i hi
  · have e : q_slen.getD i 0 = 0 := by
      rw [List.getD_eq_getElem?_getD, List.getElem?_eq_none (by show 22 ≤ i; exact hi)]
      rfl
    rw [e]
    decide
theorem q_slen_le (i : Nat) : q_slen.getD i 0 ≤ 1000 := by
  have h : ∀ j, j < 22 → q_slen.getD j 0 ≤ 1000 := by decide
  rcases Nat.lt_or_ge i 22 with hi | hi
  · exact h i hi
  · have e : q_slen.getD i 0 = 0 := by
      rw [List.getD_eq_getElem?_getD, List.getElem?_eq_none (by show 22 ≤ i; exact hi)]
      rfl
    rw [e]
    decide
end
/-! FROM 04z.micro.lean.txt -/
section
/-! small steps by terms -/
section QZ
variable {p : Program} {l : Launch} {e : Env} {R : Room} {s : State} {m : MethodId} {args : Array Value} {below : List Frame} {meth : Method} {c : Code} {H : Heap} {locs : List Loc} {cells slots : Nat} {Q : State → Prop} {cc : ByteArray} {own : String} {X : XW} {n n' : Nat} {σ0 σ : ST} {H0 : Heap} {pc : Nat} {ls : Array Slot} {rest st : List Value} {a : Array Value}
theorem q_Irw {τ : ST} (h : τ = σ) (hI : q_I X n σ0 H0 locs τ H) : q_I X n σ0 H0 locs σ H := by rw [h] at hI; exact hI
theorem q_rV0_0 {F V : Nat} (E : q_E p c cc s m args own X) (hml : c.maxLocals = ls.size) (hI : q_I X n σ0 s.heap locs σ H) {b index mL f w : Nat} {y : MethodName} {bytes : ByteArray} {ret : Option FieldType} {Qc : Array Value → State → Outcome → State → Prop}
    (hM : Met l y (q_ws y bytes mL ret) (q_rm f w) (q_P X σ [.ref b]) Qc 0 0 (q_reg X)) (ok : q_okV own index RX0 y bytes mL ret 0) (hb : q_kd X b = 1) (hR : f + 1 ≤ F ∧ 8 + (mL + 11) + w ≤ V) (hW : (rest.map fun v => v.category).sum ≤ 8) (hdg : decode cc pc = .ok (.invokevirtual index, 3)) :
    va_Run p l e (q_rm F V) s m args below meth c H locs 0 0 0 0 (F0 m pc ls (.ref b :: rest)) rest (Qc ([.ref b] : List Value).toArray) (q_reg X) :=
  q_runV (As := []) (rest := rest) E hml hI hM ok hb ⟨rfl, by decide⟩ (show vwCl[0]? = some (RX0, TX0, 15) from rfl) rfl hR ⟨Nat.le_refl _, Nat.le_refl _⟩ rfl hW hdg
theorem q_rV0_1 {F V : Nat} (E : q_E p c cc s m args own X) (hml : c.maxLocals = ls.size) (hI : q_I X n σ0 s.heap locs σ H) {x1 : Value} {b index mL f w : Nat} {y : MethodName} {bytes : ByteArray} {ret : Option FieldType} {Qc : Array Value → State → Outcome → State → Prop}
    (hM : Met l y (q_ws y bytes mL ret) (q_rm f w) (q_P X σ [.ref b, x1]) Qc 0 0 (q_reg X)) (ok : q_okV own index RX0 y bytes mL ret 1) (hb : q_kd X b = 1) (hR : f + 1 ≤ F ∧ 8 + (mL + 11) + w ≤ V) (hW : (rest.map fun v => v.category).sum ≤ 8) (hdg : decode cc pc = .ok (.invokevirtual index, 3)) :
    va_Run p l e (q_rm F V) s m args below meth c H locs 0 0 0 0 (F0 m pc ls (x1 :: .ref b :: rest)) rest (Qc ([.ref b, x1] : List Value).toArray) (q_reg X) :=
  q_runV (As := [x1]) (rest := rest) E hml hI hM ok hb ⟨rfl, by decide⟩ (show vwCl[0]? = some (RX0, TX0, 15) from rfl) rfl hR ⟨Nat.le_refl _, Nat.le_refl _⟩ rfl hW hdg
theorem q_rV0_2 {F V : Nat} (E : q_E p c cc s m args own X) (hml : c.maxLocals = ls.size) (hI : q_I X n σ0 s.heap locs σ H) {x1 x2 : Value} {b index mL f w : Nat} {y : MethodName} {bytes : ByteArray} {ret : Option FieldType} {Qc : Array Value → State → Outcome → State → Prop}
    (hM : Met l y (q_ws y bytes mL ret) (q_rm f w) (q_P X σ [.ref b, x1, x2]) Qc 0 0 (q_reg X)) (ok : q_okV own index RX0 y bytes mL ret 2) (hb : q_kd X b = 1) (hR : f + 1 ≤ F ∧ 8 + (mL + 11) + w ≤ V) (hW : (rest.map fun v => v.category).sum ≤ 8) (hdg : decode cc pc = .ok (.invokevirtual index, 3)) :
    va_Run p l e (q_rm F V) s m args below meth c H locs 0 0 0 0 (F0 m pc ls (x2 :: x1 :: .ref b :: rest)) rest (Qc ([.ref b, x1, x2] : List Value).toArray) (q_reg X) :=
  q_runV (As := [x1, x2]) (rest := rest) E hml hI hM ok hb ⟨rfl, by decide⟩ (show vwCl[0]? = some (RX0, TX0, 15) from rfl) rfl hR ⟨Nat.le_refl _, Nat.le_refl _⟩ rfl hW hdg
theorem q_rV0_3 {F V : Nat} (E : q_E p c cc s m args own X) (hml : c.maxLocals = ls.size) (hI : q_I X n σ0 s.heap locs σ H) {x1 x2 x3 : Value} {b index mL f w : Nat} {y : MethodName} {bytes : ByteArray} {ret : Option FieldType} {Qc : Array Value → State → Outcome → State → Prop}
    (hM : Met l y (q_ws y bytes mL ret) (q_rm f w) (q_P X σ [.ref b, x1, x2, x3]) Qc 0 0 (q_reg X)) (ok : q_okV own index RX0 y bytes mL ret 3) (hb : q_kd X b = 1) (hR : f + 1 ≤ F ∧ 8 + (mL + 11) + w ≤ V) (hW : (rest.map fun v => v.category).sum ≤ 8) (hdg : decode cc pc = .ok (.invokevirtual index, 3)) :
    va_Run p l e (q_rm F V) s m args below meth c H locs 0 0 0 0 (F0 m pc ls (x3 :: x2 :: x1 :: .ref b :: rest)) rest (Qc ([.ref b, x1, x2, x3] : List Value).toArray) (q_reg X) :=
  q_runV (As := [x1, x2, x3]) (rest := rest) E hml hI hM ok hb ⟨rfl, by decide⟩ (show vwCl[0]? = some (RX0, TX0, 15) from rfl) rfl hR ⟨Nat.le_refl _, Nat.le_refl _⟩ rfl hW hdg
theorem q_rV1_0 {F V : Nat} (E : q_E p c cc s m args own X) (hml : c.maxLocals = ls.size) (hI : q_I X n σ0 s.heap locs σ H) {b index mL f w : Nat} {y : MethodName} {bytes : ByteArray} {ret : Option FieldType} {Qc : Array Value → State → Outcome → State → Prop}
    (hM : Met l y (q_ws y bytes mL ret) (q_rm f w) (q_P X σ [.ref b]) Qc 0 0 (q_reg X)) (ok : q_okV own index RX1 y bytes mL ret 0) (hb : q_kd X b = 2) (hR : f + 1 ≤ F ∧ 8 + (mL + 11) + w ≤ V) (hW : (rest.map fun v => v.category).sum ≤ 8) (hdg : decode cc pc = .ok (.invokevirtual index, 3)) :
    va_Run p l e (q_rm F V) s m args below meth c H locs 0 0 0 0 (F0 m pc ls (.ref b :: rest)) rest (Qc ([.ref b] : List Value).toArray) (q_reg X) :=
  q_runV (As := []) (rest := rest) E hml hI hM ok hb ⟨rfl, by decide⟩ (show vwCl[1]? = some (RX1, TX1, 7) from rfl) rfl hR ⟨Nat.le_refl _, Nat.le_refl _⟩ rfl hW hdg
theorem q_rV1_1 {F V : Nat} (E : q_E p c cc s m args own X) (hml : c.maxLocals = ls.size) (hI : q_I X n σ0 s.heap locs σ H) {x1 : Value} {b index mL f w : Nat} {y : MethodName} {bytes : ByteArray} {ret : Option FieldType} {Qc : Array Value → State → Outcome → State → Prop}
    (hM : Met l y (q_ws y bytes mL ret) (q_rm f w) (q_P X σ [.ref b, x1]) Qc 0 0 (q_reg X)) (ok : q_okV own index RX1 y bytes mL ret 1) (hb : q_kd X b = 2) (hR : f + 1 ≤ F ∧ 8 + (mL + 11) + w ≤ V) (hW : (rest.map fun v => v.category).sum ≤ 8) (hdg : decode cc pc = .ok (.invokevirtual index, 3)) :
    va_Run p l e (q_rm F V) s m args below meth c H locs 0 0 0 0 (F0 m pc ls (x1 :: .ref b :: rest)) rest (Qc ([.ref b, x1] : List Value).toArray) (q_reg X) :=
  q_runV (As := [x1]) (rest := rest) E hml hI hM ok hb ⟨rfl, by decide⟩ (show vwCl[1]? = some (RX1, TX1, 7) from rfl) rfl hR ⟨Nat.le_refl _, Nat.le_refl _⟩ rfl hW hdg
theorem q_rV1_2 {F V : Nat} (E : q_E p c cc s m args own X) (hml : c.maxLocals = ls.size) (hI : q_I X n σ0 s.heap locs σ H) {x1 x2 : Value} {b index mL f w : Nat} {y : MethodName} {bytes : ByteArray} {ret : Option FieldType} {Qc : Array Value → State → Outcome → State → Prop}
    (hM : Met l y (q_ws y bytes mL ret) (q_rm f w) (q_P X σ [.ref b, x1, x2]) Qc 0 0 (q_reg X)) (ok : q_okV own index RX1 y bytes mL ret 2) (hb : q_kd X b = 2) (hR : f + 1 ≤ F ∧ 8 + (mL + 11) + w ≤ V) (hW : (rest.map fun v => v.category).sum ≤ 8) (hdg : decode cc pc = .ok (.invokevirtual index, 3)) :
    va_Run p l e (q_rm F V) s m args below meth c H locs 0 0 0 0 (F0 m pc ls (x2 :: x1 :: .ref b :: rest)) rest (Qc ([.ref b, x1, x2] : List Value).toArray) (q_reg X) :=
  q_runV (As := [x1, x2]) (rest := rest) E hml hI hM ok hb ⟨rfl, by decide⟩ (show vwCl[1]? = some (RX1, TX1, 7) from rfl) rfl hR ⟨Nat.le_refl _, Nat.le_refl _⟩ rfl hW hdg
theorem q_rV1_3 {F V : Nat} (E : q_E p c cc s m args own X) (hml : c.maxLocals = ls.size) (hI : q_I X n σ0 s.heap locs σ H) {x1 x2 x3 : Value} {b index mL f w : Nat} {y : MethodName} {bytes : ByteArray} {ret : Option FieldType} {Qc : Array Value → State → Outcome → State → Prop}
    (hM : Met l y (q_ws y bytes mL ret) (q_rm f w) (q_P X σ [.ref b, x1, x2, x3]) Qc 0 0 (q_reg X)) (ok : q_okV own index RX1 y bytes mL ret 3) (hb : q_kd X b = 2) (hR : f + 1 ≤ F ∧ 8 + (mL + 11) + w ≤ V) (hW : (rest.map fun v => v.category).sum ≤ 8) (hdg : decode cc pc = .ok (.invokevirtual index, 3)) :
    va_Run p l e (q_rm F V) s m args below meth c H locs 0 0 0 0 (F0 m pc ls (x3 :: x2 :: x1 :: .ref b :: rest)) rest (Qc ([.ref b, x1, x2, x3] : List Value).toArray) (q_reg X) :=
  q_runV (As := [x1, x2, x3]) (rest := rest) E hml hI hM ok hb ⟨rfl, by decide⟩ (show vwCl[1]? = some (RX1, TX1, 7) from rfl) rfl hR ⟨Nat.le_refl _, Nat.le_refl _⟩ rfl hW hdg
theorem q_rV2_0 {F V : Nat} (E : q_E p c cc s m args own X) (hml : c.maxLocals = ls.size) (hI : q_I X n σ0 s.heap locs σ H) {b index mL f w : Nat} {y : MethodName} {bytes : ByteArray} {ret : Option FieldType} {Qc : Array Value → State → Outcome → State → Prop}
    (hM : Met l y (q_ws y bytes mL ret) (q_rm f w) (q_P X σ [.ref b]) Qc 0 0 (q_reg X)) (ok : q_okV own index RX2 y bytes mL ret 0) (hb : q_kd X b = 3) (hR : f + 1 ≤ F ∧ 8 + (mL + 11) + w ≤ V) (hW : (rest.map fun v => v.category).sum ≤ 8) (hdg : decode cc pc = .ok (.invokevirtual index, 3)) :
    va_Run p l e (q_rm F V) s m args below meth c H locs 0 0 0 0 (F0 m pc ls (.ref b :: rest)) rest (Qc ([.ref b] : List Value).toArray) (q_reg X) :=
  q_runV (As := []) (rest := rest) E hml hI hM ok hb ⟨rfl, by decide⟩ (show vwCl[2]? = some (RX2, TX2, 6) from rfl) rfl hR ⟨Nat.le_refl _, Nat.le_refl _⟩ rfl hW hdg
theorem q_rV2_1 {F V : Nat} (E : q_E p c cc s m args own X) (hml : c.maxLocals = ls.size) (hI : q_I X n σ0 s.heap locs σ H) {x1 : Value} {b index mL f w : Nat} {y : MethodName} {bytes : ByteArray} {ret : Option FieldType} {Qc : Array Value → State → Outcome → State → Prop}
    (hM : Met l y (q_ws y bytes mL ret) (q_rm f w) (q_P X σ [.ref b, x1]) Qc 0 0 (q_reg X)) (ok : q_okV own index RX2 y bytes mL ret 1) (hb : q_kd X b = 3) (hR : f + 1 ≤ F ∧ 8 + (mL + 11) + w ≤ V) (hW : (rest.map fun v => v.category).sum ≤ 8) (hdg : decode cc pc = .ok (.invokevirtual index, 3)) :
    va_Run p l e (q_rm F V) s m args below meth c H locs 0 0 0 0 (F0 m pc ls (x1 :: .ref b :: rest)) rest (Qc ([.ref b, x1] : List Value).toArray) (q_reg X) :=
  q_runV (As := [x1]) (rest := rest) E hml hI hM ok hb ⟨rfl, by decide⟩ (show vwCl[2]? = some (RX2, TX2, 6) from rfl) rfl hR ⟨Nat.le_refl _, Nat.le_refl _⟩ rfl hW hdg
theorem q_rV2_2 {F V : Nat} (E : q_E p c cc s m args own X) (hml : c.maxLocals = ls.size) (hI : q_I X n σ0 s.heap locs σ H) {x1 x2 : Value} {b index mL f w : Nat} {y : MethodName} {bytes : ByteArray} {ret : Option FieldType} {Qc : Array Value → State → Outcome → State → Prop}
    (hM : Met l y (q_ws y bytes mL ret) (q_rm f w) (q_P X σ [.ref b, x1, x2]) Qc 0 0 (q_reg X)) (ok : q_okV own index RX2 y bytes mL ret 2) (hb : q_kd X b = 3) (hR : f + 1 ≤ F ∧ 8 + (mL + 11) + w ≤ V) (hW : (rest.map fun v => v.category).sum ≤ 8) (hdg : decode cc pc = .ok (.invokevirtual index, 3)) :
    va_Run p l e (q_rm F V) s m args below meth c H locs 0 0 0 0 (F0 m pc ls (x2 :: x1 :: .ref b :: rest)) rest (Qc ([.ref b, x1, x2] : List Value).toArray) (q_reg X) :=
  q_runV (As := [x1, x2]) (rest := rest) E hml hI hM ok hb ⟨rfl, by decide⟩ (show vwCl[2]? = some (RX2, TX2, 6) from rfl) rfl hR ⟨Nat.le_refl _, Nat.le_refl _⟩ rfl hW hdg
theorem q_rV3_0 {F V : Nat} (E : q_E p c cc s m args own X) (hml : c.maxLocals = ls.size) (hI : q_I X n σ0 s.heap locs σ H) {b index mL f w : Nat} {y : MethodName} {bytes : ByteArray} {ret : Option FieldType} {Qc : Array Value → State → Outcome → State → Prop}
    (hM : Met l y (q_ws y bytes mL ret) (q_rm f w) (q_P X σ [.ref b]) Qc 0 0 (q_reg X)) (ok : q_okV own index RX4 y bytes mL ret 0) (hb : q_kd X b = 4) (hR : f + 1 ≤ F ∧ 8 + (mL + 11) + w ≤ V) (hW : (rest.map fun v => v.category).sum ≤ 8) (hdg : decode cc pc = .ok (.invokevirtual index, 3)) :
    va_Run p l e (q_rm F V) s m args below meth c H locs 0 0 0 0 (F0 m pc ls (.ref b :: rest)) rest (Qc ([.ref b] : List Value).toArray) (q_reg X) :=
  q_runV (As := []) (rest := rest) E hml hI hM ok hb ⟨rfl, by decide⟩ (show vwCl[3]? = some (RX4, TX4, 11) from rfl) rfl hR ⟨Nat.le_refl _, Nat.le_refl _⟩ rfl hW hdg
theorem q_rV3_1 {F V : Nat} (E : q_E p c cc s m args own X) (hml : c.maxLocals = ls.size) (hI : q_I X n σ0 s.heap locs σ H) {x1 : Value} {b index mL f w : Nat} {y : MethodName} {bytes : ByteArray} {ret : Option FieldType} {Qc : Array Value → State → Outcome → State → Prop}
    (hM : Met l y (q_ws y bytes mL ret) (q_rm f w) (q_P X σ [.ref b, x1]) Qc 0 0 (q_reg X)) (ok : q_okV own index RX4 y bytes mL ret 1) (hb : q_kd X b = 4) (hR : f + 1 ≤ F ∧ 8 + (mL + 11) + w ≤ V) (hW : (rest.map fun v => v.category).sum ≤ 8) (hdg : decode cc pc = .ok (.invokevirtual index, 3)) :
    va_Run p l e (q_rm F V) s m args below meth c H locs 0 0 0 0 (F0 m pc ls (x1 :: .ref b :: rest)) rest (Qc ([.ref b, x1] : List Value).toArray) (q_reg X) :=
  q_runV (As := [x1]) (rest := rest) E hml hI hM ok hb ⟨rfl, by decide⟩ (show vwCl[3]? = some (RX4, TX4, 11) from rfl) rfl hR ⟨Nat.le_refl _, Nat.le_refl _⟩ rfl hW hdg
theorem q_rV3_2 {F V : Nat} (E : q_E p c cc s m args own X) (hml : c.maxLocals = ls.size) (hI : q_I X n σ0 s.heap locs σ H) {x1 x2 : Value} {b index mL f w : Nat} {y : MethodName} {bytes : ByteArray} {ret : Option FieldType} {Qc : Array Value → State → Outcome → State → Prop}
    (hM : Met l y (q_ws y bytes mL ret) (q_rm f w) (q_P X σ [.ref b, x1, x2]) Qc 0 0 (q_reg X)) (ok : q_okV own index RX4 y bytes mL ret 2) (hb : q_kd X b = 4) (hR : f + 1 ≤ F ∧ 8 + (mL + 11) + w ≤ V) (hW : (rest.map fun v => v.category).sum ≤ 8) (hdg : decode cc pc = .ok (.invokevirtual index, 3)) :
    va_Run p l e (q_rm F V) s m args below meth c H locs 0 0 0 0 (F0 m pc ls (x2 :: x1 :: .ref b :: rest)) rest (Qc ([.ref b, x1, x2] : List Value).toArray) (q_reg X) :=
  q_runV (As := [x1, x2]) (rest := rest) E hml hI hM ok hb ⟨rfl, by decide⟩ (show vwCl[3]? = some (RX4, TX4, 11) from rfl) rfl hR ⟨Nat.le_refl _, Nat.le_refl _⟩ rfl hW hdg
theorem q_rV3_3 {F V : Nat} (E : q_E p c cc s m args own X) (hml : c.maxLocals = ls.size) (hI : q_I X n σ0 s.heap locs σ H) {x1 x2 x3 : Value} {b index mL f w : Nat} {y : MethodName} {bytes : ByteArray} {ret : Option FieldType} {Qc : Array Value → State → Outcome → State → Prop}
    (hM : Met l y (q_ws y bytes mL ret) (q_rm f w) (q_P X σ [.ref b, x1, x2, x3]) Qc 0 0 (q_reg X)) (ok : q_okV own index RX4 y bytes mL ret 3) (hb : q_kd X b = 4) (hR : f + 1 ≤ F ∧ 8 + (mL + 11) + w ≤ V) (hW : (rest.map fun v => v.category).sum ≤ 8) (hdg : decode cc pc = .ok (.invokevirtual index, 3)) :
    va_Run p l e (q_rm F V) s m args below meth c H locs 0 0 0 0 (F0 m pc ls (x3 :: x2 :: x1 :: .ref b :: rest)) rest (Qc ([.ref b, x1, x2, x3] : List Value).toArray) (q_reg X) :=
  q_runV (As := [x1, x2, x3]) (rest := rest) E hml hI hM ok hb ⟨rfl, by decide⟩ (show vwCl[3]? = some (RX4, TX4, 11) from rfl) rfl hR ⟨Nat.le_refl _, Nat.le_refl _⟩ rfl hW hdg
theorem q_rV4_0 {F V : Nat} (E : q_E p c cc s m args own X) (hml : c.maxLocals = ls.size) (hI : q_I X n σ0 s.heap locs σ H) {b index mL f w : Nat} {y : MethodName} {bytes : ByteArray} {ret : Option FieldType} {Qc : Array Value → State → Outcome → State → Prop}
    (hM : Met l y (q_ws y bytes mL ret) (q_rm f w) (q_P X σ [.ref b]) Qc 0 0 (q_reg X)) (ok : q_okV own index RX5 y bytes mL ret 0) (hb : q_kd X b = 5) (hR : f + 1 ≤ F ∧ 8 + (mL + 11) + w ≤ V) (hW : (rest.map fun v => v.category).sum ≤ 8) (hdg : decode cc pc = .ok (.invokevirtual index, 3)) :
    va_Run p l e (q_rm F V) s m args below meth c H locs 0 0 0 0 (F0 m pc ls (.ref b :: rest)) rest (Qc ([.ref b] : List Value).toArray) (q_reg X) :=
  q_runV (As := []) (rest := rest) E hml hI hM ok hb ⟨rfl, by decide⟩ (show vwCl[4]? = some (RX5, TX5, 1) from rfl) rfl hR ⟨Nat.le_refl _, Nat.le_refl _⟩ rfl hW hdg
theorem q_rV4_1 {F V : Nat} (E : q_E p c cc s m args own X) (hml : c.maxLocals = ls.size) (hI : q_I X n σ0 s.heap locs σ H) {x1 : Value} {b index mL f w : Nat} {y : MethodName} {bytes : ByteArray} {ret : Option FieldType} {Qc : Array Value → State → Outcome → State → Prop}
    (hM : Met l y (q_ws y bytes mL ret) (q_rm f w) (q_P X σ [.ref b, x1]) Qc 0 0 (q_reg X)) (ok : q_okV own index RX5 y bytes mL ret 1) (hb : q_kd X b = 5) (hR : f + 1 ≤ F ∧ 8 + (mL + 11) + w ≤ V) (hW : (rest.map fun v => v.category).sum ≤ 8) (hdg : decode cc pc = .ok (.invokevirtual index, 3)) :
    va_Run p l e (q_rm F V) s m args below meth c H locs 0 0 0 0 (F0 m pc ls (x1 :: .ref b :: rest)) rest (Qc ([.ref b, x1] : List Value).toArray) (q_reg X) :=
  q_runV (As := [x1]) (rest := rest) E hml hI hM ok hb ⟨rfl, by decide⟩ (show vwCl[4]? = some (RX5, TX5, 1) from rfl) rfl hR ⟨Nat.le_refl _, Nat.le_refl _⟩ rfl hW hdg
theorem q_rV4_2 {F V : Nat} (E : q_E p c cc s m args own X) (hml : c.maxLocals = ls.size) (hI : q_I X n σ0 s.heap locs σ H) {x1 x2 : Value} {b index mL f w : Nat} {y : MethodName} {bytes : ByteArray} {ret : Option FieldType} {Qc : Array Value → State → Outcome → State → Prop}
    (hM : Met l y (q_ws y bytes mL ret) (q_rm f w) (q_P X σ [.ref b, x1, x2]) Qc 0 0 (q_reg X)) (ok : q_okV own index RX5 y bytes mL ret 2) (hb : q_kd X b = 5) (hR : f + 1 ≤ F ∧ 8 + (mL + 11) + w ≤ V) (hW : (rest.map fun v => v.category).sum ≤ 8) (hdg : decode cc pc = .ok (.invokevirtual index, 3)) :
    va_Run p l e (q_rm F V) s m args below meth c H locs 0 0 0 0 (F0 m pc ls (x2 :: x1 :: .ref b :: rest)) rest (Qc ([.ref b, x1, x2] : List Value).toArray) (q_reg X) :=
  q_runV (As := [x1, x2]) (rest := rest) E hml hI hM ok hb ⟨rfl, by decide⟩ (show vwCl[4]? = some (RX5, TX5, 1) from rfl) rfl hR ⟨Nat.le_refl _, Nat.le_refl _⟩ rfl hW hdg
theorem q_rV5_0 {F V : Nat} (E : q_E p c cc s m args own X) (hml : c.maxLocals = ls.size) (hI : q_I X n σ0 s.heap locs σ H) {b index mL f w : Nat} {y : MethodName} {bytes : ByteArray} {ret : Option FieldType} {Qc : Array Value → State → Outcome → State → Prop}
    (hM : Met l y (q_ws y bytes mL ret) (q_rm f w) (q_P X σ [.ref b]) Qc 0 0 (q_reg X)) (ok : q_okV own index RX6 y bytes mL ret 0) (hb : q_kd X b = 6) (hR : f + 1 ≤ F ∧ 8 + (mL + 11) + w ≤ V) (hW : (rest.map fun v => v.category).sum ≤ 8) (hdg : decode cc pc = .ok (.invokevirtual index, 3)) :
    va_Run p l e (q_rm F V) s m args below meth c H locs 0 0 0 0 (F0 m pc ls (.ref b :: rest)) rest (Qc ([.ref b] : List Value).toArray) (q_reg X) :=
  q_runV (As := []) (rest := rest) E hml hI hM ok hb ⟨rfl, by decide⟩ (show vwCl[5]? = some (RX6, TX6, 8) from rfl) rfl hR ⟨Nat.le_refl _, Nat.le_refl _⟩ rfl hW hdg
theorem q_rV5_1 {F V : Nat} (E : q_E p c cc s m args own X) (hml : c.maxLocals = ls.size) (hI : q_I X n σ0 s.heap locs σ H) {x1 : Value} {b index mL f w : Nat} {y : MethodName} {bytes : ByteArray} {ret : Option FieldType} {Qc : Array Value → State → Outcome → State → Prop}
    (hM : Met l y (q_ws y bytes mL ret) (q_rm f w) (q_P X σ [.ref b, x1]) Qc 0 0 (q_reg X)) (ok : q_okV own index RX6 y bytes mL ret 1) (hb : q_kd X b = 6) (hR : f + 1 ≤ F ∧ 8 + (mL + 11) + w ≤ V) (hW : (rest.map fun v => v.category).sum ≤ 8) (hdg : decode cc pc = .ok (.invokevirtual index, 3)) :
    va_Run p l e (q_rm F V) s m args below meth c H locs 0 0 0 0 (F0 m pc ls (x1 :: .ref b :: rest)) rest (Qc ([.ref b, x1] : List Value).toArray) (q_reg X) :=
  q_runV (As := [x1]) (rest := rest) E hml hI hM ok hb ⟨rfl, by decide⟩ (show vwCl[5]? = some (RX6, TX6, 8) from rfl) rfl hR ⟨Nat.le_refl _, Nat.le_refl _⟩ rfl hW hdg
theorem q_rV5_2 {F V : Nat} (E : q_E p c cc s m args own X) (hml : c.maxLocals = ls.size) (hI : q_I X n σ0 s.heap locs σ H) {x1 x2 : Value} {b index mL f w : Nat} {y : MethodName} {bytes : ByteArray} {ret : Option FieldType} {Qc : Array Value → State → Outcome → State → Prop}
    (hM : Met l y (q_ws y bytes mL ret) (q_rm f w) (q_P X σ [.ref b, x1, x2]) Qc 0 0 (q_reg X)) (ok : q_okV own index RX6 y bytes mL ret 2) (hb : q_kd X b = 6) (hR : f + 1 ≤ F ∧ 8 + (mL + 11) + w ≤ V) (hW : (rest.map fun v => v.category).sum ≤ 8) (hdg : decode cc pc = .ok (.invokevirtual index, 3)) :
    va_Run p l e (q_rm F V) s m args below meth c H locs 0 0 0 0 (F0 m pc ls (x2 :: x1 :: .ref b :: rest)) rest (Qc ([.ref b, x1, x2] : List Value).toArray) (q_reg X) :=
  q_runV (As := [x1, x2]) (rest := rest) E hml hI hM ok hb ⟨rfl, by decide⟩ (show vwCl[5]? = some (RX6, TX6, 8) from rfl) rfl hR ⟨Nat.le_refl _, Nat.le_refl _⟩ rfl hW hdg
theorem q_rV6_0 {F V : Nat} (E : q_E p c cc s m args own X) (hml : c.maxLocals = ls.size) (hI : q_I X n σ0 s.heap locs σ H) {b index mL f w : Nat} {y : MethodName} {bytes : ByteArray} {ret : Option FieldType} {Qc : Array Value → State → Outcome → State → Prop}
    (hM : Met l y (q_ws y bytes mL ret) (q_rm f w) (q_P X σ [.ref b]) Qc 0 0 (q_reg X)) (ok : q_okV own index RX7 y bytes mL ret 0) (hb : q_kd X b = 7) (hR : f + 1 ≤ F ∧ 8 + (mL + 11) + w ≤ V) (hW : (rest.map fun v => v.category).sum ≤ 8) (hdg : decode cc pc = .ok (.invokevirtual index, 3)) :
    va_Run p l e (q_rm F V) s m args below meth c H locs 0 0 0 0 (F0 m pc ls (.ref b :: rest)) rest (Qc ([.ref b] : List Value).toArray) (q_reg X) :=
  q_runV (As := []) (rest := rest) E hml hI hM ok hb ⟨rfl, by decide⟩ (show vwCl[6]? = some (RX7, TX7, 8) from rfl) rfl hR ⟨Nat.le_refl _, Nat.le_refl _⟩ rfl hW hdg
theorem q_rV6_1 {F V : Nat} (E : q_E p c cc s m args own X) (hml : c.maxLocals = ls.size) (hI : q_I X n σ0 s.heap locs σ H) {x1 : Value} {b index mL f w : Nat} {y : MethodName} {bytes : ByteArray} {ret : Option FieldType} {Qc : Array Value → State → Outcome → State → Prop}
    (hM : Met l y (q_ws y bytes mL ret) (q_rm f w) (q_P X σ [.ref b, x1]) Qc 0 0 (q_reg X)) (ok : q_okV own index RX7 y bytes mL ret 1) (hb : q_kd X b = 7) (hR : f + 1 ≤ F ∧ 8 + (mL + 11) + w ≤ V) (hW : (rest.map fun v => v.category).sum ≤ 8) (hdg : decode cc pc = .ok (.invokevirtual index, 3)) :
    va_Run p l e (q_rm F V) s m args below meth c H locs 0 0 0 0 (F0 m pc ls (x1 :: .ref b :: rest)) rest (Qc ([.ref b, x1] : List Value).toArray) (q_reg X) :=
  q_runV (As := [x1]) (rest := rest) E hml hI hM ok hb ⟨rfl, by decide⟩ (show vwCl[6]? = some (RX7, TX7, 8) from rfl) rfl hR ⟨Nat.le_refl _, Nat.le_refl _⟩ rfl hW hdg
theorem q_rV6_2 {F V : Nat} (E : q_E p c cc s m args own X) (hml : c.maxLocals = ls.size) (hI : q_I X n σ0 s.heap locs σ H) {x1 x2 : Value} {b index mL f w : Nat} {y : MethodName} {bytes : ByteArray} {ret : Option FieldType} {Qc : Array Value → State → Outcome → State → Prop}
    (hM : Met l y (q_ws y bytes mL ret) (q_rm f w) (q_P X σ [.ref b, x1, x2]) Qc 0 0 (q_reg X)) (ok : q_okV own index RX7 y bytes mL ret 2) (hb : q_kd X b = 7) (hR : f + 1 ≤ F ∧ 8 + (mL + 11) + w ≤ V) (hW : (rest.map fun v => v.category).sum ≤ 8) (hdg : decode cc pc = .ok (.invokevirtual index, 3)) :
    va_Run p l e (q_rm F V) s m args below meth c H locs 0 0 0 0 (F0 m pc ls (x2 :: x1 :: .ref b :: rest)) rest (Qc ([.ref b, x1, x2] : List Value).toArray) (q_reg X) :=
  q_runV (As := [x1, x2]) (rest := rest) E hml hI hM ok hb ⟨rfl, by decide⟩ (show vwCl[6]? = some (RX7, TX7, 8) from rfl) rfl hR ⟨Nat.le_refl _, Nat.le_refl _⟩ rfl hW hdg
theorem q_rV7_0 {F V : Nat} (E : q_E p c cc s m args own X) (hml : c.maxLocals = ls.size) (hI : q_I X n σ0 s.heap locs σ H) {b index mL f w : Nat} {y : MethodName} {bytes : ByteArray} {ret : Option FieldType} {Qc : Array Value → State → Outcome → State → Prop}
    (hM : Met l y (q_ws y bytes mL ret) (q_rm f w) (q_P X σ [.ref b]) Qc 0 0 (q_reg X)) (ok : q_okV own index RX8 y bytes mL ret 0) (hb : q_kd X b = 8) (hR : f + 1 ≤ F ∧ 8 + (mL + 11) + w ≤ V) (hW : (rest.map fun v => v.category).sum ≤ 8) (hdg : decode cc pc = .ok (.invokevirtual index, 3)) :
    va_Run p l e (q_rm F V) s m args below meth c H locs 0 0 0 0 (F0 m pc ls (.ref b :: rest)) rest (Qc ([.ref b] : List Value).toArray) (q_reg X) :=
  q_runV (As := []) (rest := rest) E hml hI hM ok hb ⟨rfl, by decide⟩ (show vwCl[7]? = some (RX8, TX8, 8) from rfl) rfl hR ⟨Nat.le_refl _, Nat.le_refl _⟩ rfl hW hdg
theorem q_rV7_1 {F V : Nat} (E : q_E p c cc s m args own X) (hml : c.maxLocals = ls.size) (hI : q_I X n σ0 s.heap locs σ H) {x1 : Value} {b index mL f w : Nat} {y : MethodName} {bytes : ByteArray} {ret : Option FieldType} {Qc : Array Value → State → Outcome → State → Prop}
    (hM : Met l y (q_ws y bytes mL ret) (q_rm f w) (q_P X σ [.ref b, x1]) Qc 0 0 (q_reg X)) (ok : q_okV own index RX8 y bytes mL ret 1) (hb : q_kd X b = 8) (hR : f + 1 ≤ F ∧ 8 + (mL + 11) + w ≤ V) (hW : (rest.map fun v => v.category).sum ≤ 8) (hdg : decode cc pc = .ok (.invokevirtual index, 3)) :
    va_Run p l e (q_rm F V) s m args below meth c H locs 0 0 0 0 (F0 m pc ls (x1 :: .ref b :: rest)) rest (Qc ([.ref b, x1] : List Value).toArray) (q_reg X) :=
  q_runV (As := [x1]) (rest := rest) E hml hI hM ok hb ⟨rfl, by decide⟩ (show vwCl[7]? = some (RX8, TX8, 8) from rfl) rfl hR ⟨Nat.le_refl _, Nat.le_refl _⟩ rfl hW hdg
theorem q_rV7_2 {F V : Nat} (E : q_E p c cc s m args own X) (hml : c.maxLocals = ls.size) (hI : q_I X n σ0 s.heap locs σ H) {x1 x2 : Value} {b index mL f w : Nat} {y : MethodName} {bytes : ByteArray} {ret : Option FieldType} {Qc : Array Value → State → Outcome → State → Prop}
    (hM : Met l y (q_ws y bytes mL ret) (q_rm f w) (q_P X σ [.ref b, x1, x2]) Qc 0 0 (q_reg X)) (ok : q_okV own index RX8 y bytes mL ret 2) (hb : q_kd X b = 8) (hR : f + 1 ≤ F ∧ 8 + (mL + 11) + w ≤ V) (hW : (rest.map fun v => v.category).sum ≤ 8) (hdg : decode cc pc = .ok (.invokevirtual index, 3)) :
    va_Run p l e (q_rm F V) s m args below meth c H locs 0 0 0 0 (F0 m pc ls (x2 :: x1 :: .ref b :: rest)) rest (Qc ([.ref b, x1, x2] : List Value).toArray) (q_reg X) :=
  q_runV (As := [x1, x2]) (rest := rest) E hml hI hM ok hb ⟨rfl, by decide⟩ (show vwCl[7]? = some (RX8, TX8, 8) from rfl) rfl hR ⟨Nat.le_refl _, Nat.le_refl _⟩ rfl hW hdg
theorem q_rV8_0 {F V : Nat} (E : q_E p c cc s m args own X) (hml : c.maxLocals = ls.size) (hI : q_I X n σ0 s.heap locs σ H) {b index mL f w : Nat} {y : MethodName} {bytes : ByteArray} {ret : Option FieldType} {Qc : Array Value → State → Outcome → State → Prop}
    (hM : Met l y (q_ws y bytes mL ret) (q_rm f w) (q_P X σ [.ref b]) Qc 0 0 (q_reg X)) (ok : q_okV own index RX9 y bytes mL ret 0) (hb : q_kd X b = 9) (hR : f + 1 ≤ F ∧ 8 + (mL + 11) + w ≤ V) (hW : (rest.map fun v => v.category).sum ≤ 8) (hdg : decode cc pc = .ok (.invokevirtual index, 3)) :
    va_Run p l e (q_rm F V) s m args below meth c H locs 0 0 0 0 (F0 m pc ls (.ref b :: rest)) rest (Qc ([.ref b] : List Value).toArray) (q_reg X) :=
  q_runV (As := []) (rest := rest) E hml hI hM ok hb ⟨rfl, by decide⟩ (show vwCl[8]? = some (RX9, TX9, 12) from rfl) rfl hR ⟨Nat.le_refl _, Nat.le_refl _⟩ rfl hW hdg
theorem q_rV8_2 {F V : Nat} (E : q_E p c cc s m args own X) (hml : c.maxLocals = ls.size) (hI : q_I X n σ0 s.heap locs σ H) {x1 x2 : Value} {b index mL f w : Nat} {y : MethodName} {bytes : ByteArray} {ret : Option FieldType} {Qc : Array Value → State → Outcome → State → Prop}
    (hM : Met l y (q_ws y bytes mL ret) (q_rm f w) (q_P X σ [.ref b, x1, x2]) Qc 0 0 (q_reg X)) (ok : q_okV own index RX9 y bytes mL ret 2) (hb : q_kd X b = 9) (hR : f + 1 ≤ F ∧ 8 + (mL + 11) + w ≤ V) (hW : (rest.map fun v => v.category).sum ≤ 8) (hdg : decode cc pc = .ok (.invokevirtual index, 3)) :
    va_Run p l e (q_rm F V) s m args below meth c H locs 0 0 0 0 (F0 m pc ls (x2 :: x1 :: .ref b :: rest)) rest (Qc ([.ref b, x1, x2] : List Value).toArray) (q_reg X) :=
  q_runV (As := [x1, x2]) (rest := rest) E hml hI hM ok hb ⟨rfl, by decide⟩ (show vwCl[8]? = some (RX9, TX9, 12) from rfl) rfl hR ⟨Nat.le_refl _, Nat.le_refl _⟩ rfl hW hdg
theorem q_rV8_3 {F V : Nat} (E : q_E p c cc s m args own X) (hml : c.maxLocals = ls.size) (hI : q_I X n σ0 s.heap locs σ H) {x1 x2 x3 : Value} {b index mL f w : Nat} {y : MethodName} {bytes : ByteArray} {ret : Option FieldType} {Qc : Array Value → State → Outcome → State → Prop}
    (hM : Met l y (q_ws y bytes mL ret) (q_rm f w) (q_P X σ [.ref b, x1, x2, x3]) Qc 0 0 (q_reg X)) (ok : q_okV own index RX9 y bytes mL ret 3) (hb : q_kd X b = 9) (hR : f + 1 ≤ F ∧ 8 + (mL + 11) + w ≤ V) (hW : (rest.map fun v => v.category).sum ≤ 8) (hdg : decode cc pc = .ok (.invokevirtual index, 3)) :
    va_Run p l e (q_rm F V) s m args below meth c H locs 0 0 0 0 (F0 m pc ls (x3 :: x2 :: x1 :: .ref b :: rest)) rest (Qc ([.ref b, x1, x2, x3] : List Value).toArray) (q_reg X) :=
  q_runV (As := [x1, x2, x3]) (rest := rest) E hml hI hM ok hb ⟨rfl, by decide⟩ (show vwCl[8]? = some (RX9, TX9, 12) from rfl) rfl hR ⟨Nat.le_refl _, Nat.le_refl _⟩ rfl hW hdg
theorem q_rV9_0 {F V : Nat} (E : q_E p c cc s m args own X) (hml : c.maxLocals = ls.size) (hI : q_I X n σ0 s.heap locs σ H) {b index mL f w : Nat} {y : MethodName} {bytes : ByteArray} {ret : Option FieldType} {Qc : Array Value → State → Outcome → State → Prop}
    (hM : Met l y (q_ws y bytes mL ret) (q_rm f w) (q_P X σ [.ref b]) Qc 0 0 (q_reg X)) (ok : q_okV own index RX10 y bytes mL ret 0) (hb : q_kd X b = 10) (hR : f + 1 ≤ F ∧ 8 + (mL + 11) + w ≤ V) (hW : (rest.map fun v => v.category).sum ≤ 8) (hdg : decode cc pc = .ok (.invokevirtual index, 3)) :
    va_Run p l e (q_rm F V) s m args below meth c H locs 0 0 0 0 (F0 m pc ls (.ref b :: rest)) rest (Qc ([.ref b] : List Value).toArray) (q_reg X) :=
  q_runV (As := []) (rest := rest) E hml hI hM ok hb ⟨rfl, by decide⟩ (show vwCl[9]? = some (RX10, TX10, 3) from rfl) rfl hR ⟨Nat.le_refl _, Nat.le_refl _⟩ rfl hW hdg
theorem q_rV9_1 {F V : Nat} (E : q_E p c cc s m args own X) (hml : c.maxLocals = ls.size) (hI : q_I X n σ0 s.heap locs σ H) {x1 : Value} {b index mL f w : Nat} {y : MethodName} {bytes : ByteArray} {ret : Option FieldType} {Qc : Array Value → State → Outcome → State → Prop}
    (hM : Met l y (q_ws y bytes mL ret) (q_rm f w) (q_P X σ [.ref b, x1]) Qc 0 0 (q_reg X)) (ok : q_okV own index RX10 y bytes mL ret 1) (hb : q_kd X b = 10) (hR : f + 1 ≤ F ∧ 8 + (mL + 11) + w ≤ V) (hW : (rest.map fun v => v.category).sum ≤ 8) (hdg : decode cc pc = .ok (.invokevirtual index, 3)) :
    va_Run p l e (q_rm F V) s m args below meth c H locs 0 0 0 0 (F0 m pc ls (x1 :: .ref b :: rest)) rest (Qc ([.ref b, x1] : List Value).toArray) (q_reg X) :=
  q_runV (As := [x1]) (rest := rest) E hml hI hM ok hb ⟨rfl, by decide⟩ (show vwCl[9]? = some (RX10, TX10, 3) from rfl) rfl hR ⟨Nat.le_refl _, Nat.le_refl _⟩ rfl hW hdg
theorem q_rV9_2 {F V : Nat} (E : q_E p c cc s m args own X) (hml : c.maxLocals = ls.size) (hI : q_I X n σ0 s.heap locs σ H) {x1 x2 : Value} {b index mL f w : Nat} {y : MethodName} {bytes : ByteArray} {ret : Option FieldType} {Qc : Array Value → State → Outcome → State → Prop}
    (hM : Met l y (q_ws y bytes mL ret) (q_rm f w) (q_P X σ [.ref b, x1, x2]) Qc 0 0 (q_reg X)) (ok : q_okV own index RX10 y bytes mL ret 2) (hb : q_kd X b = 10) (hR : f + 1 ≤ F ∧ 8 + (mL + 11) + w ≤ V) (hW : (rest.map fun v => v.category).sum ≤ 8) (hdg : decode cc pc = .ok (.invokevirtual index, 3)) :
    va_Run p l e (q_rm F V) s m args below meth c H locs 0 0 0 0 (F0 m pc ls (x2 :: x1 :: .ref b :: rest)) rest (Qc ([.ref b, x1, x2] : List Value).toArray) (q_reg X) :=
  q_runV (As := [x1, x2]) (rest := rest) E hml hI hM ok hb ⟨rfl, by decide⟩ (show vwCl[9]? = some (RX10, TX10, 3) from rfl) rfl hR ⟨Nat.le_refl _, Nat.le_refl _⟩ rfl hW hdg
theorem q_rV9_4 {F V : Nat} (E : q_E p c cc s m args own X) (hml : c.maxLocals = ls.size) (hI : q_I X n σ0 s.heap locs σ H) {x1 x2 x3 x4 : Value} {b index mL f w : Nat} {y : MethodName} {bytes : ByteArray} {ret : Option FieldType} {Qc : Array Value → State → Outcome → State → Prop}
    (hM : Met l y (q_ws y bytes mL ret) (q_rm f w) (q_P X σ [.ref b, x1, x2, x3, x4]) Qc 0 0 (q_reg X)) (ok : q_okV own index RX10 y bytes mL ret 4) (hb : q_kd X b = 10) (hR : f + 1 ≤ F ∧ 8 + (mL + 11) + w ≤ V) (hW : (rest.map fun v => v.category).sum ≤ 8) (hdg : decode cc pc = .ok (.invokevirtual index, 3)) :
    va_Run p l e (q_rm F V) s m args below meth c H locs 0 0 0 0 (F0 m pc ls (x4 :: x3 :: x2 :: x1 :: .ref b :: rest)) rest (Qc ([.ref b, x1, x2, x3, x4] : List Value).toArray) (q_reg X) :=
  q_runV (As := [x1, x2, x3, x4]) (rest := rest) E hml hI hM ok hb ⟨rfl, by decide⟩ (show vwCl[9]? = some (RX10, TX10, 3) from rfl) rfl hR ⟨Nat.le_refl _, Nat.le_refl _⟩ rfl hW hdg
theorem q_rV10_0 {F V : Nat} (E : q_E p c cc s m args own X) (hml : c.maxLocals = ls.size) (hI : q_I X n σ0 s.heap locs σ H) {b index mL f w : Nat} {y : MethodName} {bytes : ByteArray} {ret : Option FieldType} {Qc : Array Value → State → Outcome → State → Prop}
    (hM : Met l y (q_ws y bytes mL ret) (q_rm f w) (q_P X σ [.ref b]) Qc 0 0 (q_reg X)) (ok : q_okV own index RX11 y bytes mL ret 0) (hb : q_kd X b = 11) (hR : f + 1 ≤ F ∧ 8 + (mL + 11) + w ≤ V) (hW : (rest.map fun v => v.category).sum ≤ 8) (hdg : decode cc pc = .ok (.invokevirtual index, 3)) :
    va_Run p l e (q_rm F V) s m args below meth c H locs 0 0 0 0 (F0 m pc ls (.ref b :: rest)) rest (Qc ([.ref b] : List Value).toArray) (q_reg X) :=
  q_runV (As := []) (rest := rest) E hml hI hM ok hb ⟨rfl, by decide⟩ (show vwCl[10]? = some (RX11, TX11, 17) from rfl) rfl hR ⟨Nat.le_refl _, Nat.le_refl _⟩ rfl hW hdg
theorem q_rV10_1 {F V : Nat} (E : q_E p c cc s m args own X) (hml : c.maxLocals = ls.size) (hI : q_I X n σ0 s.heap locs σ H) {x1 : Value} {b index mL f w : Nat} {y : MethodName} {bytes : ByteArray} {ret : Option FieldType} {Qc : Array Value → State → Outcome → State → Prop}
    (hM : Met l y (q_ws y bytes mL ret) (q_rm f w) (q_P X σ [.ref b, x1]) Qc 0 0 (q_reg X)) (ok : q_okV own index RX11 y bytes mL ret 1) (hb : q_kd X b = 11) (hR : f + 1 ≤ F ∧ 8 + (mL + 11) + w ≤ V) (hW : (rest.map fun v => v.category).sum ≤ 8) (hdg : decode cc pc = .ok (.invokevirtual index, 3)) :
    va_Run p l e (q_rm F V) s m args below meth c H locs 0 0 0 0 (F0 m pc ls (x1 :: .ref b :: rest)) rest (Qc ([.ref b, x1] : List Value).toArray) (q_reg X) :=
  q_runV (As := [x1]) (rest := rest) E hml hI hM ok hb ⟨rfl, by decide⟩ (show vwCl[10]? = some (RX11, TX11, 17) from rfl) rfl hR ⟨Nat.le_refl _, Nat.le_refl _⟩ rfl hW hdg
theorem q_rV10_2 {F V : Nat} (E : q_E p c cc s m args own X) (hml : c.maxLocals = ls.size) (hI : q_I X n σ0 s.heap locs σ H) {x1 x2 : Value} {b index mL f w : Nat} {y : MethodName} {bytes : ByteArray} {ret : Option FieldType} {Qc : Array Value → State → Outcome → State → Prop}
    (hM : Met l y (q_ws y bytes mL ret) (q_rm f w) (q_P X σ [.ref b, x1, x2]) Qc 0 0 (q_reg X)) (ok : q_okV own index RX11 y bytes mL ret 2) (hb : q_kd X b = 11) (hR : f + 1 ≤ F ∧ 8 + (mL + 11) + w ≤ V) (hW : (rest.map fun v => v.category).sum ≤ 8) (hdg : decode cc pc = .ok (.invokevirtual index, 3)) :
    va_Run p l e (q_rm F V) s m args below meth c H locs 0 0 0 0 (F0 m pc ls (x2 :: x1 :: .ref b :: rest)) rest (Qc ([.ref b, x1, x2] : List Value).toArray) (q_reg X) :=
  q_runV (As := [x1, x2]) (rest := rest) E hml hI hM ok hb ⟨rfl, by decide⟩ (show vwCl[10]? = some (RX11, TX11, 17) from rfl) rfl hR ⟨Nat.le_refl _, Nat.le_refl _⟩ rfl hW hdg
theorem q_rV10_3 {F V : Nat} (E : q_E p c cc s m args own X) (hml : c.maxLocals = ls.size) (hI : q_I X n σ0 s.heap locs σ H) {x1 x2 x3 : Value} {b index mL f w : Nat} {y : MethodName} {bytes : ByteArray} {ret : Option FieldType} {Qc : Array Value → State → Outcome → State → Prop}
    (hM : Met l y (q_ws y bytes mL ret) (q_rm f w) (q_P X σ [.ref b, x1, x2, x3]) Qc 0 0 (q_reg X)) (ok : q_okV own index RX11 y bytes mL ret 3) (hb : q_kd X b = 11) (hR : f + 1 ≤ F ∧ 8 + (mL + 11) + w ≤ V) (hW : (rest.map fun v => v.category).sum ≤ 8) (hdg : decode cc pc = .ok (.invokevirtual index, 3)) :
    va_Run p l e (q_rm F V) s m args below meth c H locs 0 0 0 0 (F0 m pc ls (x3 :: x2 :: x1 :: .ref b :: rest)) rest (Qc ([.ref b, x1, x2, x3] : List Value).toArray) (q_reg X) :=
  q_runV (As := [x1, x2, x3]) (rest := rest) E hml hI hM ok hb ⟨rfl, by decide⟩ (show vwCl[10]? = some (RX11, TX11, 17) from rfl) rfl hR ⟨Nat.le_refl _, Nat.le_refl _⟩ rfl hW hdg
theorem q_rV11_0 {F V : Nat} (E : q_E p c cc s m args own X) (hml : c.maxLocals = ls.size) (hI : q_I X n σ0 s.heap locs σ H) {b index mL f w : Nat} {y : MethodName} {bytes : ByteArray} {ret : Option FieldType} {Qc : Array Value → State → Outcome → State → Prop}
    (hM : Met l y (q_ws y bytes mL ret) (q_rm f w) (q_P X σ [.ref b]) Qc 0 0 (q_reg X)) (ok : q_okV own index RX12 y bytes mL ret 0) (hb : q_kd X b = 12) (hR : f + 1 ≤ F ∧ 8 + (mL + 11) + w ≤ V) (hW : (rest.map fun v => v.category).sum ≤ 8) (hdg : decode cc pc = .ok (.invokevirtual index, 3)) :
    va_Run p l e (q_rm F V) s m args below meth c H locs 0 0 0 0 (F0 m pc ls (.ref b :: rest)) rest (Qc ([.ref b] : List Value).toArray) (q_reg X) :=
  q_runV (As := []) (rest := rest) E hml hI hM ok hb ⟨rfl, by decide⟩ (show vwCl[11]? = some (RX12, TX12, 46) from rfl) rfl hR ⟨Nat.le_refl _, Nat.le_refl _⟩ rfl hW hdg
theorem q_rV11_1 {F V : Nat} (E : q_E p c cc s m args own X) (hml : c.maxLocals = ls.size) (hI : q_I X n σ0 s.heap locs σ H) {x1 : Value} {b index mL f w : Nat} {y : MethodName} {bytes : ByteArray} {ret : Option FieldType} {Qc : Array Value → State → Outcome → State → Prop}
    (hM : Met l y (q_ws y bytes mL ret) (q_rm f w) (q_P X σ [.ref b, x1]) Qc 0 0 (q_reg X)) (ok : q_okV own index RX12 y bytes mL ret 1) (hb : q_kd X b = 12) (hR : f + 1 ≤ F ∧ 8 + (mL + 11) + w ≤ V) (hW : (rest.map fun v => v.category).sum ≤ 8) (hdg : decode cc pc = .ok (.invokevirtual index, 3)) :
    va_Run p l e (q_rm F V) s m args below meth c H locs 0 0 0 0 (F0 m pc ls (x1 :: .ref b :: rest)) rest (Qc ([.ref b, x1] : List Value).toArray) (q_reg X) :=
  q_runV (As := [x1]) (rest := rest) E hml hI hM ok hb ⟨rfl, by decide⟩ (show vwCl[11]? = some (RX12, TX12, 46) from rfl) rfl hR ⟨Nat.le_refl _, Nat.le_refl _⟩ rfl hW hdg
theorem q_rV11_2 {F V : Nat} (E : q_E p c cc s m args own X) (hml : c.maxLocals = ls.size) (hI : q_I X n σ0 s.heap locs σ H) {x1 x2 : Value} {b index mL f w : Nat} {y : MethodName} {bytes : ByteArray} {ret : Option FieldType} {Qc : Array Value → State → Outcome → State → Prop}
    (hM : Met l y (q_ws y bytes mL ret) (q_rm f w) (q_P X σ [.ref b, x1, x2]) Qc 0 0 (q_reg X)) (ok : q_okV own index RX12 y bytes mL ret 2) (hb : q_kd X b = 12) (hR : f + 1 ≤ F ∧ 8 + (mL + 11) + w ≤ V) (hW : (rest.map fun v => v.category).sum ≤ 8) (hdg : decode cc pc = .ok (.invokevirtual index, 3)) :
    va_Run p l e (q_rm F V) s m args below meth c H locs 0 0 0 0 (F0 m pc ls (x2 :: x1 :: .ref b :: rest)) rest (Qc ([.ref b, x1, x2] : List Value).toArray) (q_reg X) :=
  q_runV (As := [x1, x2]) (rest := rest) E hml hI hM ok hb ⟨rfl, by decide⟩ (show vwCl[11]? = some (RX12, TX12, 46) from rfl) rfl hR ⟨Nat.le_refl _, Nat.le_refl _⟩ rfl hW hdg
theorem q_rV11_4 {F V : Nat} (E : q_E p c cc s m args own X) (hml : c.maxLocals = ls.size) (hI : q_I X n σ0 s.heap locs σ H) {x1 x2 x3 x4 : Value} {b index mL f w : Nat} {y : MethodName} {bytes : ByteArray} {ret : Option FieldType} {Qc : Array Value → State → Outcome → State → Prop}
    (hM : Met l y (q_ws y bytes mL ret) (q_rm f w) (q_P X σ [.ref b, x1, x2, x3, x4]) Qc 0 0 (q_reg X)) (ok : q_okV own index RX12 y bytes mL ret 4) (hb : q_kd X b = 12) (hR : f + 1 ≤ F ∧ 8 + (mL + 11) + w ≤ V) (hW : (rest.map fun v => v.category).sum ≤ 8) (hdg : decode cc pc = .ok (.invokevirtual index, 3)) :
    va_Run p l e (q_rm F V) s m args below meth c H locs 0 0 0 0 (F0 m pc ls (x4 :: x3 :: x2 :: x1 :: .ref b :: rest)) rest (Qc ([.ref b, x1, x2, x3, x4] : List Value).toArray) (q_reg X) :=
  q_runV (As := [x1, x2, x3, x4]) (rest := rest) E hml hI hM ok hb ⟨rfl, by decide⟩ (show vwCl[11]? = some (RX12, TX12, 46) from rfl) rfl hR ⟨Nat.le_refl _, Nat.le_refl _⟩ rfl hW hdg
end QZ
theorem zkb_10 : (Int8.ofInt 10).toInt32 = (10 : Int32) := by decide
theorem zkb_100 : (Int8.ofInt 100).toInt32 = (100 : Int32) := by decide
theorem zkb_101 : (Int8.ofInt 101).toInt32 = (101 : Int32) := by decide
theorem zkb_102 : (Int8.ofInt 102).toInt32 = (102 : Int32) := by decide
theorem zkb_104 : (Int8.ofInt 104).toInt32 = (104 : Int32) := by decide
theorem zkb_105 : (Int8.ofInt 105).toInt32 = (105 : Int32) := by decide
theorem zkb_107 : (Int8.ofInt 107).toInt32 = (107 : Int32) := by decide
theorem zkb_108 : (Int8.ofInt 108).toInt32 = (108 : Int32) := by decide
theorem zkb_109 : (Int8.ofInt 109).toInt32 = (109 : Int32) := by decide
theorem zkb_11 : (Int8.ofInt 11).toInt32 = (11 : Int32) := by decide
theorem zkb_110 : (Int8.ofInt 110).toInt32 = (110 : Int32) := by decide
theorem zkb_111 : (Int8.ofInt 111).toInt32 = (111 : Int32) := by decide
theorem zkb_112 : (Int8.ofInt 112).toInt32 = (112 : Int32) := by decide
theorem zkb_114 : (Int8.ofInt 114).toInt32 = (114 : Int32) := by decide
theorem zkb_115 : (Int8.ofInt 115).toInt32 = (115 : Int32) := by decide
theorem zkb_116 : (Int8.ofInt 116).toInt32 = (116 : Int32) := by decide
theorem zkb_117 : (Int8.ofInt 117).toInt32 = (117 : Int32) := by decide
theorem zkb_119 : (Int8.ofInt 119).toInt32 = (119 : Int32) := by decide
theorem zkb_121 : (Int8.ofInt 121).toInt32 = (121 : Int32) := by decide
theorem zkb_122 : (Int8.ofInt 122).toInt32 = (122 : Int32) := by decide
theorem zkb_16 : (Int8.ofInt 16).toInt32 = (16 : Int32) := by decide
theorem zkb_20 : (Int8.ofInt 20).toInt32 = (20 : Int32) := by decide
theorem zkb_22 : (Int8.ofInt 22).toInt32 = (22 : Int32) := by decide
theorem zkb_24 : (Int8.ofInt 24).toInt32 = (24 : Int32) := by decide
theorem zkb_28 : (Int8.ofInt 28).toInt32 = (28 : Int32) := by decide
theorem zkb_30 : (Int8.ofInt 30).toInt32 = (30 : Int32) := by decide
theorem zkb_32 : (Int8.ofInt 32).toInt32 = (32 : Int32) := by decide
theorem zkb_34 : (Int8.ofInt 34).toInt32 = (34 : Int32) := by decide
theorem zkb_48 : (Int8.ofInt 48).toInt32 = (48 : Int32) := by decide
theorem zkb_57 : (Int8.ofInt 57).toInt32 = (57 : Int32) := by decide
theorem zkb_59 : (Int8.ofInt 59).toInt32 = (59 : Int32) := by decide
theorem zkb_6 : (Int8.ofInt 6).toInt32 = (6 : Int32) := by decide
theorem zkb_60 : (Int8.ofInt 60).toInt32 = (60 : Int32) := by decide
theorem zkb_61 : (Int8.ofInt 61).toInt32 = (61 : Int32) := by decide
theorem zkb_62 : (Int8.ofInt 62).toInt32 = (62 : Int32) := by decide
theorem zkb_7 : (Int8.ofInt 7).toInt32 = (7 : Int32) := by decide
theorem zkb_8 : (Int8.ofInt 8).toInt32 = (8 : Int32) := by decide
theorem zkb_80 : (Int8.ofInt 80).toInt32 = (80 : Int32) := by decide
theorem zkb_9 : (Int8.ofInt 9).toInt32 = (9 : Int32) := by decide
theorem zkb_94 : (Int8.ofInt 94).toInt32 = (94 : Int32) := by decide
theorem zkb_97 : (Int8.ofInt 97).toInt32 = (97 : Int32) := by decide
theorem zkb_98 : (Int8.ofInt 98).toInt32 = (98 : Int32) := by decide
theorem zkb_99 : (Int8.ofInt 99).toInt32 = (99 : Int32) := by decide
theorem zki_0 : Int32.ofInt 0 = (0 : Int32) := by decide
theorem zki_1 : Int32.ofInt 1 = (1 : Int32) := by decide
theorem zki_2 : Int32.ofInt 2 = (2 : Int32) := by decide
theorem zki_3 : Int32.ofInt 3 = (3 : Int32) := by decide
theorem zki_4 : Int32.ofInt 4 = (4 : Int32) := by decide
theorem zki_5 : Int32.ofInt 5 = (5 : Int32) := by decide
theorem zki_m1 : Int32.ofInt (-1) = (-1 : Int32) := by decide
theorem zks_10000 : (Int16.ofInt 10000).toInt32 = (10000 : Int32) := by decide
theorem zks_10259 : (Int16.ofInt 10259).toInt32 = (10259 : Int32) := by decide
theorem zks_200 : (Int16.ofInt 200).toInt32 = (200 : Int32) := by decide
theorem zks_255 : (Int16.ofInt 255).toInt32 = (255 : Int32) := by decide
theorem zks_2861 : (Int16.ofInt 2861).toInt32 = (2861 : Int32) := by decide
theorem zks_300 : (Int16.ofInt 300).toInt32 = (300 : Int32) := by decide
theorem zks_3720 : (Int16.ofInt 3720).toInt32 = (3720 : Int32) := by decide
theorem zks_3721 : (Int16.ofInt 3721).toInt32 = (3721 : Int32) := by decide
theorem zks_3722 : (Int16.ofInt 3722).toInt32 = (3722 : Int32) := by decide
theorem zks_3723 : (Int16.ofInt 3723).toInt32 = (3723 : Int32) := by decide
theorem zks_3724 : (Int16.ofInt 3724).toInt32 = (3724 : Int32) := by decide
theorem zks_3726 : (Int16.ofInt 3726).toInt32 = (3726 : Int32) := by decide
theorem zks_3728 : (Int16.ofInt 3728).toInt32 = (3728 : Int32) := by decide
theorem zks_3730 : (Int16.ofInt 3730).toInt32 = (3730 : Int32) := by decide
theorem zks_3736 : (Int16.ofInt 3736).toInt32 = (3736 : Int32) := by decide
theorem zks_3754 : (Int16.ofInt 3754).toInt32 = (3754 : Int32) := by decide
theorem zks_4376 : (Int16.ofInt 4376).toInt32 = (4376 : Int32) := by decide
theorem zks_654 : (Int16.ofInt 654).toInt32 = (654 : Int32) := by decide
theorem zks_655 : (Int16.ofInt 655).toInt32 = (655 : Int32) := by decide
theorem zks_656 : (Int16.ofInt 656).toInt32 = (656 : Int32) := by decide
theorem zks_900 : (Int16.ofInt 900).toInt32 = (900 : Int32) := by decide
theorem zks_930 : (Int16.ofInt 930).toInt32 = (930 : Int32) := by decide
theorem zks_999 : (Int16.ofInt 999).toInt32 = (999 : Int32) := by decide
theorem zks_9999 : (Int16.ofInt 9999).toInt32 = (9999 : Int32) := by decide
theorem zt_0 : (0 : Int32).toInt = 0 := rfl
theorem zt_1 : (1 : Int32).toInt = 1 := rfl
theorem zt_10 : (10 : Int32).toInt = 10 := rfl
theorem zt_100 : (100 : Int32).toInt = 100 := rfl
theorem zt_101 : (101 : Int32).toInt = 101 := rfl
theorem zt_102 : (102 : Int32).toInt = 102 := rfl
theorem zt_104 : (104 : Int32).toInt = 104 := rfl
theorem zt_105 : (105 : Int32).toInt = 105 := rfl
theorem zt_107 : (107 : Int32).toInt = 107 := rfl
theorem zt_108 : (108 : Int32).toInt = 108 := rfl
theorem zt_109 : (109 : Int32).toInt = 109 := rfl
theorem zt_11 : (11 : Int32).toInt = 11 := rfl
theorem zt_110 : (110 : Int32).toInt = 110 := rfl
theorem zt_111 : (111 : Int32).toInt = 111 := rfl
theorem zt_112 : (112 : Int32).toInt = 112 := rfl
theorem zt_114 : (114 : Int32).toInt = 114 := rfl
theorem zt_115 : (115 : Int32).toInt = 115 := rfl
theorem zt_116 : (116 : Int32).toInt = 116 := rfl
theorem zt_117 : (117 : Int32).toInt = 117 := rfl
theorem zt_119 : (119 : Int32).toInt = 119 := rfl
theorem zt_121 : (121 : Int32).toInt = 121 := rfl
theorem zt_122 : (122 : Int32).toInt = 122 := rfl
theorem zt_16 : (16 : Int32).toInt = 16 := rfl
theorem zt_2 : (2 : Int32).toInt = 2 := rfl
theorem zt_20 : (20 : Int32).toInt = 20 := rfl
theorem zt_22 : (22 : Int32).toInt = 22 := rfl
theorem zt_28 : (28 : Int32).toInt = 28 := rfl
theorem zt_3 : (3 : Int32).toInt = 3 := rfl
theorem zt_300 : (300 : Int32).toInt = 300 := rfl
theorem zt_4 : (4 : Int32).toInt = 4 := rfl
theorem zt_48 : (48 : Int32).toInt = 48 := rfl
theorem zt_5 : (5 : Int32).toInt = 5 := rfl
theorem zt_57 : (57 : Int32).toInt = 57 := rfl
theorem zt_59 : (59 : Int32).toInt = 59 := rfl
theorem zt_6 : (6 : Int32).toInt = 6 := rfl
theorem zt_60 : (60 : Int32).toInt = 60 := rfl
theorem zt_61 : (61 : Int32).toInt = 61 := rfl
theorem zt_62 : (62 : Int32).toInt = 62 := rfl
theorem zt_7 : (7 : Int32).toInt = 7 := rfl
theorem zt_8 : (8 : Int32).toInt = 8 := rfl
theorem zt_80 : (80 : Int32).toInt = 80 := rfl
theorem zt_9 : (9 : Int32).toInt = 9 := rfl
theorem zt_900 : (900 : Int32).toInt = 900 := rfl
theorem zt_97 : (97 : Int32).toInt = 97 := rfl
theorem zt_98 : (98 : Int32).toInt = 98 := rfl
theorem zt_99 : (99 : Int32).toInt = 99 := rfl
theorem zt_999 : (999 : Int32).toInt = 999 := rfl
theorem zt_m1 : (-1 : Int32).toInt = -1 := rfl
end
/-! FROM 05.exact.lean.txt -/
section
/-! EXACT ANSWERS: each method's answer and state as a function, piece by piece -/
def q_let {α β : Type} (v : α) (k : α → β) : β := k v
def q_bi {α β : Type} (p : α × ST) (k : α → ST → β) : β := k p.1 p.2
def q_on {β : Type} (r : Option Nat) (A : β) (B : Nat → β) : β := match r with | none => A | some b => B b
/-- by a proof that isn't taken for one by computation: fuel would be counted -/
theorem q_letE {α β : Type} (v : α) (k : α → β) : q_let v k = k v := Eq.trans (Eq.refl (q_let v k)) (Eq.refl (k v))
theorem q_biE {α β : Type} (p : α × ST) (k : α → ST → β) : q_bi p k = k p.1 p.2 := Eq.trans (Eq.refl (q_bi p k)) (Eq.refl (k p.1 p.2))
theorem q_remI (a b : Int32) : a - a / b * b = a % b := by
  apply Int32.toInt_inj.mp
  rw [Int32.toInt_sub, Int32.toInt_mul, Int32.toInt_div, Int.bmod_mul_bmod, Int.sub_bmod_bmod]
  have h := Int.tdiv_mul_add_tmod a.toInt b.toInt
  have e : a.toInt - a.toInt.tdiv b.toInt * b.toInt = (a % b).toInt := by rw [Int32.toInt_mod]; omega
  rw [e]
  exact Int32.toInt_bmod_size _
theorem q_remJ (a b : Int64) : a - a / b * b = a % b := by
  apply Int64.toInt_inj.mp
  rw [Int64.toInt_sub, Int64.toInt_mul, Int64.toInt_div, Int.bmod_mul_bmod, Int.sub_bmod_bmod]
  have h := Int.tdiv_mul_add_tmod a.toInt b.toInt
  have e : a.toInt - a.toInt.tdiv b.toInt * b.toInt = (a % b).toInt := by rw [Int64.toInt_mod]; omega
  rw [e]
  exact Int64.toInt_bmod_size _
theorem q_letX {α β : Type} {v z : α} {k : α → β} {o : β} (h : q_let v k = o) (e : z = v) : k z = o := by
  subst e
  exact h
theorem q_biX {α β : Type} {p : α × ST} {r : α} {σ : ST} {k : α → ST → β} {o : β} (h : q_bi p k = o) (e : (r, σ) = p) : k r σ = o := by
  subst e
  exact h
theorem q_onN {β : Type} {A : β} {B : Nat → β} {o : β} (h : q_on none A B = o) : A = o := h
theorem q_onS {β : Type} {b : Nat} {A : β} {B : Nat → β} {o : β} (h : q_on (some b) A B = o) : B b = o := h
theorem q_ifp {β : Type} {c : Prop} {i : Decidable c} {A B o : β} (h : @ite β c i A B = o) (hc : c) : A = o := by
  rw [if_pos hc] at h
  exact h
theorem q_ifn {β : Type} {c : Prop} {i : Decidable c} {A B o : β} (h : @ite β c i A B = o) (hc : ¬ c) : B = o := by
  rw [if_neg hc] at h
  exact h
def q_len (X : XW) (a : Nat) : Int32 := Int32.ofNat (q_ln X a)
def q_cpyl (σ : ST) (a a0 : Nat) (sp dp z : Int32) : ST := (σ.1, (fun b g => if b = a then va_cpy (σ.2.1 a0) (σ.2.1 a) sp.toNatClampNeg dp.toNatClampNeg z.toNatClampNeg g else σ.2.1 b g, σ.2.2))
/-! which cells a method writes: lists of (kind, place), 99 for all places; ints and longs -/
def q_in2 (L : List (Nat × Nat)) (k f : Nat) : Bool := L.any (fun x => x.1 == k && (x.2 == 99 || x.2 == f))
def q_ow (L M : List (Nat × Nat)) (X : XW) (σ τ : ST) : Prop := (∀ a f, q_in2 L (q_kd X a) f = false → τ.1 a f = σ.1 a f) ∧ ∀ a f, q_in2 M (q_kd X a) f = false → τ.2.1 a f = σ.2.1 a f
theorem q_in2_sub {L L2 : List (Nat × Nat)} (h : L2.all (fun x => L.contains x) = true) {k f : Nat} (hf : q_in2 L k f = false) : q_in2 L2 k f = false := by
  unfold q_in2 at hf ⊢
  rw [List.any_eq_false] at hf ⊢
  intro x hx
  have h1 := List.all_eq_true.mp h x hx
  exact hf x (List.contains_iff_mem.mp h1)
theorem q_ow.rf {L M : List (Nat × Nat)} {X : XW} {σ : ST} : q_ow L M X σ σ := ⟨fun _ _ _ => rfl, fun _ _ _ => rfl⟩
theorem q_ow.call {L M L2 M2 : List (Nat × Nat)} {X : XW} {σ τ τ' : ST} (h : q_ow L M X σ τ) (k : q_ow L2 M2 X τ τ') (s1 : L2.all (fun x => L.contains x) = true) (s2 : M2.all (fun x => M.contains x) = true) : q_ow L M X σ τ' :=
  ⟨fun a f q => (k.1 a f (q_in2_sub s1 q)).trans (h.1 a f q), fun a f q => (k.2 a f (q_in2_sub s2 q)).trans (h.2 a f q)⟩
theorem q_si_ne {τ : ST} {a b f : Nat} {v : Int32} (h : b ≠ a) (g : Nat) : (q_si τ a f v).1 b g = τ.1 b g := by
  show (if b = a ∧ g = f then v else τ.1 b g) = _
  rw [if_neg (fun q => h q.1)]
theorem q_sl_ne {τ : ST} {a b f : Nat} {v : Int64} (h : b ≠ a) (g : Nat) : (q_sl τ a f v).2.1 b g = τ.2.1 b g := by
  show (if b = a ∧ g = f then v else τ.2.1 b g) = _
  rw [if_neg (fun q => h q.1)]
theorem q_ow.si {L M : List (Nat × Nat)} {X : XW} {σ τ τ' : ST} {a k f : Nat} {v : Int32} (h : q_ow L M X σ τ) (e : τ' = q_si τ a f v) (ha : q_kd X a = k) (hw : q_in2 L k f = true) : q_ow L M X σ τ' := by
  subst e
  refine ⟨fun b g q => ?_, fun b g q => h.2 b g q⟩
  show (if b = a ∧ g = f then v else τ.1 b g) = _
  rw [if_neg]
  · exact h.1 b g q
  · rintro ⟨rfl, rfl⟩
    rw [ha, hw] at q
    cases q
theorem q_ow.siR {L M : List (Nat × Nat)} {X : XW} {σ τ τ' : ST} {a f : Nat} {v : Int32} (h : q_ow L M X σ τ) (e : τ' = q_si τ a f v) (ha : q_kd X a = 4 ∨ q_kd X a = 9) (h4 : q_in2 L 4 f = true) (h9 : q_in2 L 9 f = true) : q_ow L M X σ τ' := by
  rcases ha with ha | ha
  · exact h.si e ha h4
  · exact h.si e ha h9
theorem q_ow.sl {L M : List (Nat × Nat)} {X : XW} {σ τ τ' : ST} {a k f : Nat} {v : Int64} (h : q_ow L M X σ τ) (e : τ' = q_sl τ a f v) (ha : q_kd X a = k) (hw : q_in2 M k f = true) : q_ow L M X σ τ' := by
  subst e
  refine ⟨fun b g q => h.1 b g q, fun b g q => ?_⟩
  show (if b = a ∧ g = f then v else τ.2.1 b g) = _
  rw [if_neg]
  · exact h.2 b g q
  · rintro ⟨rfl, rfl⟩
    rw [ha, hw] at q
    cases q
theorem q_ow.st {L M : List (Nat × Nat)} {X : XW} {σ τ τ' : ST} {a v : Nat} (h : q_ow L M X σ τ) (e : τ' = q_st τ a v) : q_ow L M X σ τ' := by
  subst e
  exact h
theorem q_ow.cpy {L M : List (Nat × Nat)} {X : XW} {σ τ τ' : ST} {a a0 k : Nat} {sp dp z : Int32} (h : q_ow L M X σ τ) (e : τ' = q_cpyl τ a a0 sp dp z) (ha : q_kd X a = k) (hw2 : ∀ f, q_in2 M k f = true) : q_ow L M X σ τ' := by
  subst e
  refine ⟨fun b g q => h.1 b g q, fun b g q => ?_⟩
  show (if b = a then _ else τ.2.1 b g) = _
  rw [if_neg]
  · exact h.2 b g q
  · rintro rfl
    rw [ha, hw2] at q
    cases q
section QX
variable {p : Program} {l : Launch} {e : Env} {R : Room} {s : State} {m : MethodId} {args : Array Value} {below : List Frame} {meth : Method} {c : Code} {H : Heap} {locs : List Loc} {cells slots : Nat} {Q : State → Prop} {cc : ByteArray} {own : String} {X : XW} {n : Nat} {σ0 σ : ST} {H0 : Heap} {pc : Nat} {ls : Array Slot} {rest : List Value} {a k : Nat}
theorem q_lcmpX (E : q_E p c cc s m args own X) {x y : Int64} (hdg : decode cc pc = .ok (.lcmp, 1)) (kk : ∀ z : Int32, z = lg_cmp x y → ((z.toInt < 0 ↔ x.toInt < y.toInt) ∧ (0 < z.toInt ↔ y.toInt < x.toInt)) → W p l e R s m args below meth c H locs cells slots Q (F0 m (pc + 1) ls (.int z :: rest))) : W p l e R s m args below meth c H locs cells slots Q (F0 m pc ls (.long y :: .long x :: rest)) := by
  refine W.lcmp E.1 E.2.1 hdg (kk _ rfl ⟨?_, ?_⟩)
  · have h := lg_cmp_lt x y
    rw [Int32.lt_iff_toInt_lt, q_z0, Int64.lt_iff_toInt_lt] at h
    exact h
  · have h := lg_cmp_gt x y
    rw [Int32.lt_iff_toInt_lt, q_z0, Int64.lt_iff_toInt_lt] at h
    exact h
theorem q_alenX (E : q_E p c cc s m args own X) (hI : q_I X n σ0 H0 locs σ H) (ha : q_kd X a = k) (hk : 20 ≤ k) {t : Nat} {ty : FieldType} (he : q_et k = t) (ht : (q_tys X)[t]? = some (q_gA X t, ty)) (hdg : decode cc pc = .ok (.arraylength, 1))
    (kk : ∀ z : Int32, z = q_len X a → z.toInt = (q_ln X a : Int) → W p l e R s m args below meth c H locs cells slots Q (F0 m (pc + 1) ls (.int z :: rest))) : W p l e R s m args below meth c H locs cells slots Q (F0 m pc ls (.ref a :: rest)) := by
  obtain ⟨hx, hb, hown, hts, ⟨hK, -, -⟩, -⟩ := E
  have hc := q_arr hI ha hk
  rw [he] at hc
  have hln := hI.1.2.2.1 a
  exact W.alen (n := Int32.ofNat (q_ln X a)) hx hb hc (q_kx_ty hK ht _ _) (by rw [arrV_size] <;> rfl) rfl rfl hdg (kk _ rfl (nI_toInt (by omega)))
end QX
theorem q_ifOne {x : Int} (b : 0 ≤ x ∧ x ≤ 1) (h : x ≠ 0) : x = 1 := by omega
theorem q_ifYes {x : Int} {P : Prop} (h : x = 1 ↔ P) (e : x = 1) : P := h.mp e
theorem q_ifNo {x : Int} {P : Prop} (h : x = 1 ↔ P) (e : x = 0) : ¬ P := fun p => by
  have := h.mpr p
  omega
end
