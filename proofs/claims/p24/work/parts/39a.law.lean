theorem dL_cell_0 : decode cL_cell 0 = .ok (.iload_n 1, 1) := by decide +kernel
theorem dL_cell_1 : decode cL_cell 1 = .ok (.aload_n 0, 1) := by decide +kernel
theorem dL_cell_2 : decode cL_cell 2 = .ok (.arraylength, 1) := by decide +kernel
theorem dL_cell_3 : decode cL_cell 3 = .ok (.if_icmp .ge 9, 3) := by decide +kernel
theorem dL_cell_6 : decode cL_cell 6 = .ok (.aload_n 0, 1) := by decide +kernel
theorem dL_cell_7 : decode cL_cell 7 = .ok (.iload_n 1, 1) := by decide +kernel
theorem dL_cell_8 : decode cL_cell 8 = .ok (.iaload, 1) := by decide +kernel
theorem dL_cell_9 : decode cL_cell 9 = .ok (.goto 11, 3) := by decide +kernel
theorem dL_cell_12 : decode cL_cell 12 = .ok (.ldc 7, 2) := by decide +kernel
theorem dL_cell_14 : decode cL_cell 14 = .ok (.iload_n 1, 1) := by decide +kernel
theorem dL_cell_15 : decode cL_cell 15 = .ok (.imul, 1) := by decide +kernel
theorem dL_cell_16 : decode cL_cell 16 = .ok (.sipush 1229, 3) := by decide +kernel
theorem dL_cell_19 : decode cL_cell 19 = .ok (.iadd, 1) := by decide +kernel
theorem dL_cell_20 : decode cL_cell 20 = .ok (.ireturn, 1) := by decide +kernel
theorem dL_low_0 : decode cL_low 0 = .ok (.iload_n 0, 1) := by decide +kernel
theorem dL_low_1 : decode cL_low 1 = .ok (.ldc 8, 2) := by decide +kernel
theorem dL_low_3 : decode cL_low 3 = .ok (.iand, 1) := by decide +kernel
theorem dL_low_4 : decode cL_low 4 = .ok (.iload_n 1, 1) := by decide +kernel
theorem dL_low_5 : decode cL_low 5 = .ok (.irem, 1) := by decide +kernel
theorem dL_low_6 : decode cL_low 6 = .ok (.ireturn, 1) := by decide +kernel
theorem dL_send_0 : decode cL_send 0 = .ok (.aload_n 0, 1) := by decide +kernel
theorem dL_send_1 : decode cL_send 1 = .ok (.iload_n 1, 1) := by decide +kernel
theorem dL_send_2 : decode cL_send 2 = .ok (.iload_n 2, 1) := by decide +kernel
theorem dL_send_3 : decode cL_send 3 = .ok (.iload_n 3, 1) := by decide +kernel
theorem dL_send_4 : decode cL_send 4 = .ok (.iload 4, 2) := by decide +kernel
theorem dL_send_6 : decode cL_send 6 = .ok (.iload 5, 2) := by decide +kernel
theorem dL_send_8 : decode cL_send 8 = .ok (.invokevirtual 9, 3) := by decide +kernel
theorem dL_send_11 : decode cL_send 11 = .ok (.ireturn, 1) := by decide +kernel
theorem dL_send_12 : decode cL_send 12 = .ok (.astore 6, 2) := by decide +kernel
theorem dL_send_14 : decode cL_send 14 = .ok (.bipush (-2), 2) := by decide +kernel
theorem dL_send_16 : decode cL_send 16 = .ok (.ireturn, 1) := by decide +kernel
theorem dL_send_17 : decode cL_send 17 = .ok (.astore 6, 2) := by decide +kernel
theorem dL_send_19 : decode cL_send 19 = .ok (.bipush (-3), 2) := by decide +kernel
theorem dL_send_21 : decode cL_send 21 = .ok (.ireturn, 1) := by decide +kernel
theorem dL_send_22 : decode cL_send 22 = .ok (.astore 6, 2) := by decide +kernel
theorem dL_send_24 : decode cL_send 24 = .ok (.bipush (-4), 2) := by decide +kernel
theorem dL_send_26 : decode cL_send 26 = .ok (.ireturn, 1) := by decide +kernel
theorem dL_meet_0 : decode cL_meet 0 = .ok (.aload_n 0, 1) := by decide +kernel
theorem dL_meet_1 : decode cL_meet 1 = .ok (.iload_n 1, 1) := by decide +kernel
theorem dL_meet_2 : decode cL_meet 2 = .ok (.iload_n 2, 1) := by decide +kernel
theorem dL_meet_3 : decode cL_meet 3 = .ok (.iload_n 3, 1) := by decide +kernel
theorem dL_meet_4 : decode cL_meet 4 = .ok (.invokevirtual 21, 3) := by decide +kernel
theorem dL_meet_7 : decode cL_meet 7 = .ok (.ireturn, 1) := by decide +kernel
theorem dL_meet_8 : decode cL_meet 8 = .ok (.astore 4, 2) := by decide +kernel
theorem dL_meet_10 : decode cL_meet 10 = .ok (.bipush (-2), 2) := by decide +kernel
theorem dL_meet_12 : decode cL_meet 12 = .ok (.ireturn, 1) := by decide +kernel
theorem dL_meet_13 : decode cL_meet 13 = .ok (.astore 4, 2) := by decide +kernel
theorem dL_meet_15 : decode cL_meet 15 = .ok (.bipush (-3), 2) := by decide +kernel
theorem dL_meet_17 : decode cL_meet 17 = .ok (.ireturn, 1) := by decide +kernel
theorem dL_pass_0 : decode cL_pass 0 = .ok (.aload_n 0, 1) := by decide +kernel
theorem dL_pass_1 : decode cL_pass 1 = .ok (.iload_n 1, 1) := by decide +kernel
theorem dL_pass_2 : decode cL_pass 2 = .ok (.invokevirtual 25, 3) := by decide +kernel
theorem dL_pass_5 : decode cL_pass 5 = .ok (.ireturn, 1) := by decide +kernel
theorem dL_pass_6 : decode cL_pass 6 = .ok (.astore_n 2, 1) := by decide +kernel
theorem dL_pass_7 : decode cL_pass 7 = .ok (.bipush (-3), 2) := by decide +kernel
theorem dL_pass_9 : decode cL_pass 9 = .ok (.ireturn, 1) := by decide +kernel
theorem dL_buffer_0 : decode cL_buffer 0 = .ok (.aload_n 0, 1) := by decide +kernel
theorem dL_buffer_1 : decode cL_buffer 1 = .ok (.iload_n 1, 1) := by decide +kernel
theorem dL_buffer_2 : decode cL_buffer 2 = .ok (.iload_n 2, 1) := by decide +kernel
theorem dL_buffer_3 : decode cL_buffer 3 = .ok (.invokevirtual 29, 3) := by decide +kernel
theorem dL_buffer_6 : decode cL_buffer 6 = .ok (.ireturn, 1) := by decide +kernel
theorem dL_buffer_7 : decode cL_buffer 7 = .ok (.astore_n 3, 1) := by decide +kernel
theorem dL_buffer_8 : decode cL_buffer 8 = .ok (.bipush (-2), 2) := by decide +kernel
theorem dL_buffer_10 : decode cL_buffer 10 = .ok (.ireturn, 1) := by decide +kernel
theorem dL_buffer_11 : decode cL_buffer 11 = .ok (.astore_n 3, 1) := by decide +kernel
theorem dL_buffer_12 : decode cL_buffer 12 = .ok (.bipush (-3), 2) := by decide +kernel
theorem dL_buffer_14 : decode cL_buffer 14 = .ok (.ireturn, 1) := by decide +kernel
theorem dL_buffer_15 : decode cL_buffer 15 = .ok (.astore_n 3, 1) := by decide +kernel
theorem dL_buffer_16 : decode cL_buffer 16 = .ok (.bipush (-4), 2) := by decide +kernel
theorem dL_buffer_18 : decode cL_buffer 18 = .ok (.ireturn, 1) := by decide +kernel
theorem dL_contact_0 : decode cL_contact 0 = .ok (.aload_n 0, 1) := by decide +kernel
theorem dL_contact_1 : decode cL_contact 1 = .ok (.iload_n 1, 1) := by decide +kernel
theorem dL_contact_2 : decode cL_contact 2 = .ok (.iload_n 2, 1) := by decide +kernel
theorem dL_contact_3 : decode cL_contact 3 = .ok (.iload_n 3, 1) := by decide +kernel
theorem dL_contact_4 : decode cL_contact 4 = .ok (.iload 4, 2) := by decide +kernel
theorem dL_contact_6 : decode cL_contact 6 = .ok (.invokevirtual 33, 3) := by decide +kernel
theorem dL_contact_9 : decode cL_contact 9 = .ok (.ireturn, 1) := by decide +kernel
theorem dL_contact_10 : decode cL_contact 10 = .ok (.astore 5, 2) := by decide +kernel
theorem dL_contact_12 : decode cL_contact 12 = .ok (.bipush (-2), 2) := by decide +kernel
theorem dL_contact_14 : decode cL_contact 14 = .ok (.ireturn, 1) := by decide +kernel
theorem dL_contact_15 : decode cL_contact 15 = .ok (.astore 5, 2) := by decide +kernel
theorem dL_contact_17 : decode cL_contact 17 = .ok (.bipush (-3), 2) := by decide +kernel
theorem dL_contact_19 : decode cL_contact 19 = .ok (.ireturn, 1) := by decide +kernel
theorem dL_contact_20 : decode cL_contact 20 = .ok (.astore 5, 2) := by decide +kernel
theorem dL_contact_22 : decode cL_contact 22 = .ok (.bipush (-4), 2) := by decide +kernel
theorem dL_contact_24 : decode cL_contact 24 = .ok (.ireturn, 1) := by decide +kernel
theorem dL_end_0 : decode cL_end 0 = .ok (.aload_n 0, 1) := by decide +kernel
theorem dL_end_1 : decode cL_end 1 = .ok (.iload_n 1, 1) := by decide +kernel
theorem dL_end_2 : decode cL_end 2 = .ok (.invokevirtual 37, 3) := by decide +kernel
theorem dL_end_5 : decode cL_end 5 = .ok (.ireturn, 1) := by decide +kernel
theorem dL_end_6 : decode cL_end 6 = .ok (.astore_n 2, 1) := by decide +kernel
theorem dL_end_7 : decode cL_end 7 = .ok (.bipush (-2), 2) := by decide +kernel
theorem dL_end_9 : decode cL_end 9 = .ok (.ireturn, 1) := by decide +kernel
theorem dL_at_0 : decode cL_at 0 = .ok (.aload_n 0, 1) := by decide +kernel
theorem dL_at_1 : decode cL_at 1 = .ok (.iload_n 1, 1) := by decide +kernel
theorem dL_at_2 : decode cL_at 2 = .ok (.iload_n 2, 1) := by decide +kernel
theorem dL_at_3 : decode cL_at 3 = .ok (.invokevirtual 40, 3) := by decide +kernel
theorem dL_at_6 : decode cL_at 6 = .ok (.ireturn, 1) := by decide +kernel
theorem dL_at_7 : decode cL_at 7 = .ok (.astore_n 3, 1) := by decide +kernel
theorem dL_at_8 : decode cL_at 8 = .ok (.bipush (-2), 2) := by decide +kernel
theorem dL_at_10 : decode cL_at 10 = .ok (.ireturn, 1) := by decide +kernel
theorem dL_tell_0 : decode cL_tell 0 = .ok (.bipush 64, 2) := by decide +kernel
theorem dL_tell_2 : decode cL_tell 2 = .ok (.newarray .int, 2) := by decide +kernel
theorem dL_tell_4 : decode cL_tell 4 = .ok (.astore_n 1, 1) := by decide +kernel
theorem dL_tell_5 : decode cL_tell 5 = .ok (.aload_n 1, 1) := by decide +kernel
theorem dL_tell_6 : decode cL_tell 6 = .ok (.iconst 0, 1) := by decide +kernel
theorem dL_tell_7 : decode cL_tell 7 = .ok (.aload_n 0, 1) := by decide +kernel
theorem dL_tell_8 : decode cL_tell 8 = .ok (.invokevirtual 43, 3) := by decide +kernel
theorem dL_tell_11 : decode cL_tell 11 = .ok (.iastore, 1) := by decide +kernel
theorem dL_tell_12 : decode cL_tell 12 = .ok (.aload_n 1, 1) := by decide +kernel
