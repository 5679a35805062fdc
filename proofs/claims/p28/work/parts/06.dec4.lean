set_option maxRecDepth 20000 in
theorem gX6_read_X6_refuse : GoodIn wsX6_read (va_wsS RX6 34 yX6_refuse wsX6_refuse) := goodIn_app (goodIn_of _ (by decide +kernel)) ggX6_read_X6_refuse
set_option maxRecDepth 20000 in
theorem ggX6_read_X4_readerValue : GoodIn wsX6_read wsX4_readerValue := goodIn_r _ [29, 30, 31, 15, 8, 16, 32, 33, 34, 35, 36, 37, 38, 39, 40, 41, 42, 43, 44, 45, 46, 47, 48, 49, 50, 51, 52, 53, 54, 55, 56, 57, 58, 59, 60, 61, 62, 63, 64, 68, 69, 70, 71, 72, 73, 74, 75, 76, 77, 78, 79, 80, 81, 82, 83, 84, 85, 86] (by decide +kernel) (by decide +kernel)
set_option maxRecDepth 20000 in
theorem gX6_read_X4_readerValue : GoodIn wsX6_read (wsV RX6 98 RX4 yX4_readerValue wsX4_readerValue) := goodIn_app (goodIn_of _ (by decide +kernel)) ggX6_read_X4_readerValue
theorem dX6_read_0 : decode cX6_read 0 = .ok (.aload_n 0, 1) := by decide +kernel
theorem dX6_read_1 : decode cX6_read 1 = .ok (.getfield 12, 3) := by decide +kernel
theorem dX6_read_4 : decode cX6_read 4 = .ok (.iload_n 1, 1) := by decide +kernel
theorem dX6_read_5 : decode cX6_read 5 = .ok (.iload_n 2, 1) := by decide +kernel
theorem dX6_read_6 : decode cX6_read 6 = .ok (.invokevirtual 95, 3) := by decide +kernel
theorem dX6_read_9 : decode cX6_read 9 = .ok (.invokestatic 34, 3) := by decide +kernel
theorem dX6_read_12 : decode cX6_read 12 = .ok (.aload_n 0, 1) := by decide +kernel
theorem dX6_read_13 : decode cX6_read 13 = .ok (.getfield 12, 3) := by decide +kernel
theorem dX6_read_16 : decode cX6_read 16 = .ok (.iload_n 1, 1) := by decide +kernel
theorem dX6_read_17 : decode cX6_read 17 = .ok (.iload_n 2, 1) := by decide +kernel
theorem dX6_read_18 : decode cX6_read 18 = .ok (.invokevirtual 98, 3) := by decide +kernel
theorem dX6_read_21 : decode cX6_read 21 = .ok (.ireturn, 1) := by decide +kernel
set_option maxRecDepth 20000 in
theorem ggX6_entry_X4_currentEntries : GoodIn wsX6_entry wsX4_currentEntries := goodIn_r _ [6, 7, 8, 9, 10, 5, 11, 12, 13, 14, 15, 16, 17, 18, 19, 20, 21, 22, 23, 24, 25, 26, 27, 28, 29, 30, 31, 32, 33, 34, 35, 36, 77, 78, 79, 80, 81, 82, 83, 84, 85, 86, 87, 88, 89, 90, 91, 92, 93, 94, 95] (by decide +kernel) (by decide +kernel)
set_option maxRecDepth 20000 in
theorem gX6_entry_X4_currentEntries : GoodIn wsX6_entry (wsV RX6 101 RX4 yX4_currentEntries wsX4_currentEntries) := goodIn_app (goodIn_of _ (by decide +kernel)) ggX6_entry_X4_currentEntries
set_option maxRecDepth 20000 in
theorem ggX6_entry_X6_partFault : GoodIn wsX6_entry wsX6_partFault := goodIn_r _ [39, 40, 41, 20, 42] (by decide +kernel) (by decide +kernel)
set_option maxRecDepth 20000 in
theorem gX6_entry_X6_partFault : GoodIn wsX6_entry (va_wsS RX6 104 yX6_partFault wsX6_partFault) := goodIn_app (goodIn_of _ (by decide +kernel)) ggX6_entry_X6_partFault
set_option maxRecDepth 20000 in
theorem ggX6_entry_X6_refuse : GoodIn wsX6_entry wsX6_refuse := goodIn_ca (goodIn_ca (goodIn_ca (goodIn_r _ [45, 46, 47, 48, 49, 50, 51] (by decide +kernel) (by decide +kernel)) (goodIn_sub (fun _ h => List.mem_cons_of_mem _ (List.mem_append_left _ (List.mem_append_left _ (List.mem_append_right _ h)))) (by decide +kernel))) (goodIn_sub (fun _ h => List.mem_cons_of_mem _ (List.mem_append_left _ (List.mem_append_right _ h))) (by decide +kernel))) (goodIn_sub (fun _ h => List.mem_cons_of_mem _ (List.mem_append_right _ h)) (by decide +kernel))
set_option maxRecDepth 20000 in
theorem gX6_entry_X6_refuse : GoodIn wsX6_entry (va_wsS RX6 34 yX6_refuse wsX6_refuse) := goodIn_app (goodIn_of _ (by decide +kernel)) ggX6_entry_X6_refuse
set_option maxRecDepth 20000 in
theorem ggX6_entry_X4_entryPart : GoodIn wsX6_entry wsX4_entryPart := goodIn_r _ [55, 7, 8, 9, 10, 5, 11, 12, 13, 14, 15, 16, 17, 18, 19, 20, 21, 56, 57, 58, 25, 59, 27, 28, 29, 30, 31, 32, 33, 34, 35, 36, 60, 61, 62, 63, 64, 65, 66, 67, 68, 69, 70, 71, 72, 73, 77, 78, 79, 80, 81, 82, 83, 84, 85, 86, 87, 88, 89, 90, 91, 92, 93, 94, 95] (by decide +kernel) (by decide +kernel)
set_option maxRecDepth 20000 in
theorem gX6_entry_X4_entryPart : GoodIn wsX6_entry (wsV RX6 108 RX4 yX4_entryPart wsX4_entryPart) := goodIn_app (goodIn_of _ (by decide +kernel)) ggX6_entry_X4_entryPart
theorem dX6_entry_0 : decode cX6_entry 0 = .ok (.iload_n 1, 1) := by decide +kernel
theorem dX6_entry_1 : decode cX6_entry 1 = .ok (.aload_n 0, 1) := by decide +kernel
theorem dX6_entry_2 : decode cX6_entry 2 = .ok (.getfield 12, 3) := by decide +kernel
theorem dX6_entry_5 : decode cX6_entry 5 = .ok (.invokevirtual 101, 3) := by decide +kernel
theorem dX6_entry_8 : decode cX6_entry 8 = .ok (.iload_n 2, 1) := by decide +kernel
theorem dX6_entry_9 : decode cX6_entry 9 = .ok (.iconst 4, 1) := by decide +kernel
theorem dX6_entry_10 : decode cX6_entry 10 = .ok (.invokestatic 104, 3) := by decide +kernel
theorem dX6_entry_13 : decode cX6_entry 13 = .ok (.invokestatic 34, 3) := by decide +kernel
theorem dX6_entry_16 : decode cX6_entry 16 = .ok (.aload_n 0, 1) := by decide +kernel
theorem dX6_entry_17 : decode cX6_entry 17 = .ok (.getfield 12, 3) := by decide +kernel
theorem dX6_entry_20 : decode cX6_entry 20 = .ok (.iload_n 1, 1) := by decide +kernel
theorem dX6_entry_21 : decode cX6_entry 21 = .ok (.iload_n 2, 1) := by decide +kernel
theorem dX6_entry_22 : decode cX6_entry 22 = .ok (.invokevirtual 108, 3) := by decide +kernel
theorem dX6_entry_25 : decode cX6_entry 25 = .ok (.ireturn, 1) := by decide +kernel
set_option maxRecDepth 20000 in
theorem ggX6_root_X6_partFault : GoodIn wsX6_root wsX6_partFault := goodIn_r _ [5, 6, 7, 4, 8] (by decide +kernel) (by decide +kernel)
set_option maxRecDepth 20000 in
theorem gX6_root_X6_partFault : GoodIn wsX6_root (va_wsS RX6 104 yX6_partFault wsX6_partFault) := goodIn_app (goodIn_of _ (by decide +kernel)) ggX6_root_X6_partFault
set_option maxRecDepth 20000 in
theorem ggX6_root_X6_refuse : GoodIn wsX6_root wsX6_refuse := goodIn_ca (goodIn_ca (goodIn_ca (goodIn_r _ [11, 12, 13, 14, 15, 16, 17] (by decide +kernel) (by decide +kernel)) (goodIn_sub (fun _ h => List.mem_cons_of_mem _ (List.mem_append_left _ (List.mem_append_left _ (List.mem_append_right _ h)))) (by decide +kernel))) (goodIn_sub (fun _ h => List.mem_cons_of_mem _ (List.mem_append_left _ (List.mem_append_right _ h))) (by decide +kernel))) (goodIn_sub (fun _ h => List.mem_cons_of_mem _ (List.mem_append_right _ h)) (by decide +kernel))
set_option maxRecDepth 20000 in
theorem gX6_root_X6_refuse : GoodIn wsX6_root (va_wsS RX6 34 yX6_refuse wsX6_refuse) := goodIn_app (goodIn_of _ (by decide +kernel)) ggX6_root_X6_refuse
set_option maxRecDepth 20000 in
theorem ggX6_root_X4_rootPart : GoodIn wsX6_root wsX4_rootPart := goodIn_r _ [22, 23, 24, 25, 26, 4, 27, 28, 29, 30, 21, 31, 32, 33, 37, 38, 39, 40, 41, 42, 43, 44, 45, 46] (by decide +kernel) (by decide +kernel)
set_option maxRecDepth 20000 in
theorem gX6_root_X4_rootPart : GoodIn wsX6_root (wsV RX6 111 RX4 yX4_rootPart wsX4_rootPart) := goodIn_app (goodIn_of _ (by decide +kernel)) ggX6_root_X4_rootPart
theorem dX6_root_0 : decode cX6_root 0 = .ok (.iload_n 1, 1) := by decide +kernel
theorem dX6_root_1 : decode cX6_root 1 = .ok (.iconst 2, 1) := by decide +kernel
theorem dX6_root_2 : decode cX6_root 2 = .ok (.iload_n 2, 1) := by decide +kernel
theorem dX6_root_3 : decode cX6_root 3 = .ok (.iconst 4, 1) := by decide +kernel
theorem dX6_root_4 : decode cX6_root 4 = .ok (.invokestatic 104, 3) := by decide +kernel
theorem dX6_root_7 : decode cX6_root 7 = .ok (.invokestatic 34, 3) := by decide +kernel
theorem dX6_root_10 : decode cX6_root 10 = .ok (.aload_n 0, 1) := by decide +kernel
theorem dX6_root_11 : decode cX6_root 11 = .ok (.getfield 12, 3) := by decide +kernel
theorem dX6_root_14 : decode cX6_root 14 = .ok (.iload_n 1, 1) := by decide +kernel
theorem dX6_root_15 : decode cX6_root 15 = .ok (.iload_n 2, 1) := by decide +kernel
theorem dX6_root_16 : decode cX6_root 16 = .ok (.invokevirtual 111, 3) := by decide +kernel
theorem dX6_root_19 : decode cX6_root 19 = .ok (.ireturn, 1) := by decide +kernel
set_option maxRecDepth 20000 in
theorem ggX6_reader_X6_partFault : GoodIn wsX6_reader wsX6_partFault := goodIn_r _ [5, 6, 7, 4, 8] (by decide +kernel) (by decide +kernel)
set_option maxRecDepth 20000 in
theorem gX6_reader_X6_partFault : GoodIn wsX6_reader (va_wsS RX6 104 yX6_partFault wsX6_partFault) := goodIn_app (goodIn_of _ (by decide +kernel)) ggX6_reader_X6_partFault
set_option maxRecDepth 20000 in
theorem ggX6_reader_X6_refuse : GoodIn wsX6_reader wsX6_refuse := goodIn_ca (goodIn_ca (goodIn_ca (goodIn_r _ [11, 12, 13, 14, 15, 16, 17] (by decide +kernel) (by decide +kernel)) (goodIn_sub (fun _ h => List.mem_cons_of_mem _ (List.mem_append_left _ (List.mem_append_left _ (List.mem_append_right _ h)))) (by decide +kernel))) (goodIn_sub (fun _ h => List.mem_cons_of_mem _ (List.mem_append_left _ (List.mem_append_right _ h))) (by decide +kernel))) (goodIn_sub (fun _ h => List.mem_cons_of_mem _ (List.mem_append_right _ h)) (by decide +kernel))
set_option maxRecDepth 20000 in
theorem gX6_reader_X6_refuse : GoodIn wsX6_reader (va_wsS RX6 34 yX6_refuse wsX6_refuse) := goodIn_app (goodIn_of _ (by decide +kernel)) ggX6_reader_X6_refuse
set_option maxRecDepth 20000 in
theorem ggX6_reader_X4_readerPart : GoodIn wsX6_reader wsX4_readerPart := goodIn_r _ [22, 23, 24, 25, 26, 27, 28, 21, 29, 30, 4, 31, 32, 33, 34, 35, 36, 37, 38, 39, 40, 41, 42, 43, 44, 45, 46, 50, 51, 52, 53, 54, 55, 56, 57, 58, 59, 60, 61, 62, 63, 64, 65, 66, 67, 68] (by decide +kernel) (by decide +kernel)
set_option maxRecDepth 20000 in
theorem gX6_reader_X4_readerPart : GoodIn wsX6_reader (wsV RX6 114 RX4 yX4_readerPart wsX4_readerPart) := goodIn_app (goodIn_of _ (by decide +kernel)) ggX6_reader_X4_readerPart
theorem dX6_reader_0 : decode cX6_reader 0 = .ok (.iload_n 1, 1) := by decide +kernel
theorem dX6_reader_1 : decode cX6_reader 1 = .ok (.iconst 4, 1) := by decide +kernel
theorem dX6_reader_2 : decode cX6_reader 2 = .ok (.iload_n 2, 1) := by decide +kernel
theorem dX6_reader_3 : decode cX6_reader 3 = .ok (.iconst 3, 1) := by decide +kernel
theorem dX6_reader_4 : decode cX6_reader 4 = .ok (.invokestatic 104, 3) := by decide +kernel
theorem dX6_reader_7 : decode cX6_reader 7 = .ok (.invokestatic 34, 3) := by decide +kernel
theorem dX6_reader_10 : decode cX6_reader 10 = .ok (.aload_n 0, 1) := by decide +kernel
theorem dX6_reader_11 : decode cX6_reader 11 = .ok (.getfield 12, 3) := by decide +kernel
theorem dX6_reader_14 : decode cX6_reader 14 = .ok (.iload_n 1, 1) := by decide +kernel
theorem dX6_reader_15 : decode cX6_reader 15 = .ok (.iload_n 2, 1) := by decide +kernel
theorem dX6_reader_16 : decode cX6_reader 16 = .ok (.invokevirtual 114, 3) := by decide +kernel
theorem dX6_reader_19 : decode cX6_reader 19 = .ok (.ireturn, 1) := by decide +kernel
set_option maxRecDepth 20000 in
theorem ggX6_bed_X6_partFault : GoodIn wsX6_bed wsX6_partFault := goodIn_r _ [5, 6, 7, 4, 8] (by decide +kernel) (by decide +kernel)
set_option maxRecDepth 20000 in
theorem gX6_bed_X6_partFault : GoodIn wsX6_bed (va_wsS RX6 104 yX6_partFault wsX6_partFault) := goodIn_app (goodIn_of _ (by decide +kernel)) ggX6_bed_X6_partFault
set_option maxRecDepth 20000 in
theorem ggX6_bed_X6_refuse : GoodIn wsX6_bed wsX6_refuse := goodIn_ca (goodIn_ca (goodIn_ca (goodIn_r _ [11, 12, 13, 14, 15, 16, 17] (by decide +kernel) (by decide +kernel)) (goodIn_sub (fun _ h => List.mem_cons_of_mem _ (List.mem_append_left _ (List.mem_append_left _ (List.mem_append_right _ h)))) (by decide +kernel))) (goodIn_sub (fun _ h => List.mem_cons_of_mem _ (List.mem_append_left _ (List.mem_append_right _ h))) (by decide +kernel))) (goodIn_sub (fun _ h => List.mem_cons_of_mem _ (List.mem_append_right _ h)) (by decide +kernel))
set_option maxRecDepth 20000 in
theorem gX6_bed_X6_refuse : GoodIn wsX6_bed (va_wsS RX6 34 yX6_refuse wsX6_refuse) := goodIn_app (goodIn_of _ (by decide +kernel)) ggX6_bed_X6_refuse
set_option maxRecDepth 20000 in
theorem ggX6_bed_X4_bedPart : GoodIn wsX6_bed wsX4_bedPart := goodIn_r _ [22, 23, 24, 25, 26, 21, 27, 28, 29, 30, 31, 32, 33, 34, 35, 36, 37, 38, 39, 40, 41, 42, 43, 44, 45, 46, 47, 48, 49, 50, 4, 51, 52, 53, 54, 55, 56, 57, 61, 62, 63, 64, 65, 66, 67, 68, 69, 70, 71, 72, 73, 74, 75, 76, 77, 78, 79] (by decide +kernel) (by decide +kernel)
set_option maxRecDepth 20000 in
theorem gX6_bed_X4_bedPart : GoodIn wsX6_bed (wsV RX6 117 RX4 yX4_bedPart wsX4_bedPart) := goodIn_app (goodIn_of _ (by decide +kernel)) ggX6_bed_X4_bedPart
theorem dX6_bed_0 : decode cX6_bed 0 = .ok (.iload_n 1, 1) := by decide +kernel
theorem dX6_bed_1 : decode cX6_bed 1 = .ok (.bipush 32, 2) := by decide +kernel
theorem dX6_bed_3 : decode cX6_bed 3 = .ok (.iload_n 2, 1) := by decide +kernel
theorem dX6_bed_4 : decode cX6_bed 4 = .ok (.bipush 6, 2) := by decide +kernel
theorem dX6_bed_6 : decode cX6_bed 6 = .ok (.invokestatic 104, 3) := by decide +kernel
theorem dX6_bed_9 : decode cX6_bed 9 = .ok (.invokestatic 34, 3) := by decide +kernel
theorem dX6_bed_12 : decode cX6_bed 12 = .ok (.aload_n 0, 1) := by decide +kernel
theorem dX6_bed_13 : decode cX6_bed 13 = .ok (.getfield 12, 3) := by decide +kernel
theorem dX6_bed_16 : decode cX6_bed 16 = .ok (.iload_n 1, 1) := by decide +kernel
theorem dX6_bed_17 : decode cX6_bed 17 = .ok (.iload_n 2, 1) := by decide +kernel
theorem dX6_bed_18 : decode cX6_bed 18 = .ok (.invokevirtual 117, 3) := by decide +kernel
theorem dX6_bed_21 : decode cX6_bed 21 = .ok (.ireturn, 1) := by decide +kernel
set_option maxRecDepth 20000 in
theorem ggX6_whole_X6_isBelow : GoodIn wsX6_whole wsX6_isBelow := goodIn_r _ [6] (by decide +kernel) (by decide +kernel)
set_option maxRecDepth 20000 in
theorem gX6_whole_X6_isBelow : GoodIn wsX6_whole (va_wsS RX6 120 yX6_isBelow wsX6_isBelow) := goodIn_app (goodIn_of _ (by decide +kernel)) ggX6_whole_X6_isBelow
set_option maxRecDepth 20000 in
theorem ggX6_whole_X6_refuse : GoodIn wsX6_whole wsX6_refuse := goodIn_ca (goodIn_ca (goodIn_ca (goodIn_r _ [9, 10, 11, 12, 13, 14, 15] (by decide +kernel) (by decide +kernel)) (goodIn_sub (fun _ h => List.mem_cons_of_mem _ (List.mem_append_left _ (List.mem_append_left _ (List.mem_append_right _ h)))) (by decide +kernel))) (goodIn_sub (fun _ h => List.mem_cons_of_mem _ (List.mem_append_left _ (List.mem_append_right _ h))) (by decide +kernel))) (goodIn_sub (fun _ h => List.mem_cons_of_mem _ (List.mem_append_right _ h)) (by decide +kernel))
set_option maxRecDepth 20000 in
theorem gX6_whole_X6_refuse : GoodIn wsX6_whole (va_wsS RX6 34 yX6_refuse wsX6_refuse) := goodIn_app (goodIn_of _ (by decide +kernel)) ggX6_whole_X6_refuse
set_option maxRecDepth 20000 in
theorem ggX6_whole_X4_wholePart : GoodIn wsX6_whole wsX4_wholePart := goodIn_r _ [20, 21, 22, 23, 24, 25, 26, 27, 28, 29, 30, 31, 5, 32, 33, 34, 35, 19, 36, 37, 38, 39, 40, 41, 42, 43, 44, 45, 46, 47, 48, 49, 50, 51, 52, 53, 54, 55, 56, 57, 58, 59, 60, 61, 62, 63, 64, 65, 66, 67, 68, 69, 70, 71, 72, 73, 74, 75, 76, 77, 78, 79, 80, 81, 82, 83, 84, 85, 86, 87, 88, 89, 90, 91, 92, 93, 94, 95, 96, 97, 98, 99, 100, 101, 102, 103, 104, 105, 106, 107, 108, 109, 110, 111, 112, 113, 114, 115, 116, 117, 118, 129, 130, 131, 132, 133, 134, 135, 136, 137, 138, 139, 140, 141, 142, 143, 144, 145, 146, 147] (by decide +kernel) (by decide +kernel)
set_option maxRecDepth 20000 in
theorem gX6_whole_X4_wholePart : GoodIn wsX6_whole (wsV RX6 128 RX4 yX4_wholePart wsX4_wholePart) := goodIn_app (goodIn_of _ (by decide +kernel)) ggX6_whole_X4_wholePart
theorem dX6_whole_0 : decode cX6_whole 0 = .ok (.iload_n 1, 1) := by decide +kernel
theorem dX6_whole_1 : decode cX6_whole 1 = .ok (.bipush 15, 2) := by decide +kernel
theorem dX6_whole_3 : decode cX6_whole 3 = .ok (.invokestatic 120, 3) := by decide +kernel
theorem dX6_whole_6 : decode cX6_whole 6 = .ok (.ifCond .eq 7, 3) := by decide +kernel
theorem dX6_whole_9 : decode cX6_whole 9 = .ok (.iconst 0, 1) := by decide +kernel
theorem dX6_whole_10 : decode cX6_whole 10 = .ok (.goto 4, 3) := by decide +kernel
theorem dX6_whole_13 : decode cX6_whole 13 = .ok (.iconst 2, 1) := by decide +kernel
theorem dX6_whole_14 : decode cX6_whole 14 = .ok (.invokestatic 34, 3) := by decide +kernel
theorem dX6_whole_17 : decode cX6_whole 17 = .ok (.iload_n 1, 1) := by decide +kernel
theorem dX6_whole_18 : decode cX6_whole 18 = .ok (.bipush 14, 2) := by decide +kernel
theorem dX6_whole_20 : decode cX6_whole 20 = .ok (.if_icmp .ne 13, 3) := by decide +kernel
theorem dX6_whole_23 : decode cX6_whole 23 = .ok (.aload_n 0, 1) := by decide +kernel
theorem dX6_whole_24 : decode cX6_whole 24 = .ok (.getfield 26, 3) := by decide +kernel
theorem dX6_whole_27 : decode cX6_whole 27 = .ok (.getfield 124, 3) := by decide +kernel
theorem dX6_whole_30 : decode cX6_whole 30 = .ok (.goto 11, 3) := by decide +kernel
theorem dX6_whole_33 : decode cX6_whole 33 = .ok (.aload_n 0, 1) := by decide +kernel
theorem dX6_whole_34 : decode cX6_whole 34 = .ok (.getfield 12, 3) := by decide +kernel
theorem dX6_whole_37 : decode cX6_whole 37 = .ok (.iload_n 1, 1) := by decide +kernel
theorem dX6_whole_38 : decode cX6_whole 38 = .ok (.invokevirtual 128, 3) := by decide +kernel
theorem dX6_whole_41 : decode cX6_whole 41 = .ok (.ireturn, 1) := by decide +kernel
set_option maxRecDepth 20000 in
theorem ggX6_nextBed_X4_bedToDig : GoodIn wsX6_nextBed wsX4_bedToDig := goodIn_r _ [6, 7, 8, 9, 10, 5, 11, 12, 13, 14, 15, 16, 17, 18, 19, 20, 21, 22, 23, 24, 25, 26, 27, 28, 29, 30, 31, 32, 33, 34, 35, 36, 37, 38, 42, 43, 44, 45, 46, 47, 48, 49, 50, 51, 52, 53, 54, 55, 56, 57, 58, 59, 60] (by decide +kernel) (by decide +kernel)
set_option maxRecDepth 20000 in
theorem gX6_nextBed_X4_bedToDig : GoodIn wsX6_nextBed (wsV RX6 131 RX4 yX4_bedToDig wsX4_bedToDig) := goodIn_app (goodIn_of _ (by decide +kernel)) ggX6_nextBed_X4_bedToDig
theorem dX6_nextBed_0 : decode cX6_nextBed 0 = .ok (.aload_n 0, 1) := by decide +kernel
theorem dX6_nextBed_1 : decode cX6_nextBed 1 = .ok (.getfield 12, 3) := by decide +kernel
theorem dX6_nextBed_4 : decode cX6_nextBed 4 = .ok (.invokevirtual 131, 3) := by decide +kernel
theorem dX6_nextBed_7 : decode cX6_nextBed 7 = .ok (.ireturn, 1) := by decide +kernel
set_option maxRecDepth 20000 in
theorem ggX6_bedsFor_X4_draftedFault : GoodIn wsX6_bedsFor wsX4_draftedFault := goodIn_r _ [6, 7, 8, 9, 10, 66, 67, 68, 69, 70, 71, 72, 73, 74, 75] (by decide +kernel) (by decide +kernel)
set_option maxRecDepth 20000 in
theorem gX6_bedsFor_X4_draftedFault : GoodIn wsX6_bedsFor (wsV RX6 89 RX4 yX4_draftedFault wsX4_draftedFault) := goodIn_app (goodIn_of _ (by decide +kernel)) ggX6_bedsFor_X4_draftedFault
set_option maxRecDepth 20000 in
theorem ggX6_bedsFor_X6_refuse : GoodIn wsX6_bedsFor wsX6_refuse := goodIn_ca (goodIn_ca (goodIn_ca (goodIn_r _ [13, 14, 15, 16, 17, 18, 19] (by decide +kernel) (by decide +kernel)) (goodIn_sub (fun _ h => List.mem_cons_of_mem _ (List.mem_append_left _ (List.mem_append_left _ (List.mem_append_right _ h)))) (by decide +kernel))) (goodIn_sub (fun _ h => List.mem_cons_of_mem _ (List.mem_append_left _ (List.mem_append_right _ h))) (by decide +kernel))) (goodIn_sub (fun _ h => List.mem_cons_of_mem _ (List.mem_append_right _ h)) (by decide +kernel))
set_option maxRecDepth 20000 in
theorem gX6_bedsFor_X6_refuse : GoodIn wsX6_bedsFor (va_wsS RX6 34 yX6_refuse wsX6_refuse) := goodIn_app (goodIn_of _ (by decide +kernel)) ggX6_bedsFor_X6_refuse
set_option maxRecDepth 20000 in
theorem ggX6_bedsFor_X4_digsToPut : GoodIn wsX6_bedsFor wsX4_digsToPut := goodIn_r _ [23, 24, 25, 26, 27, 28, 29, 30, 31, 32, 33, 34, 35, 36, 37, 38, 39, 40, 41, 42, 43, 44, 45, 46, 47, 48, 5, 49, 50, 51, 52, 53, 54, 55, 9, 56, 57, 58, 59, 60, 61, 62, 66, 67, 68, 69, 70, 71, 72, 73, 74, 75, 76, 77, 78, 79, 80, 81, 82, 83, 84] (by decide +kernel) (by decide +kernel)
set_option maxRecDepth 20000 in
theorem gX6_bedsFor_X4_digsToPut : GoodIn wsX6_bedsFor (wsV RX6 134 RX4 yX4_digsToPut wsX4_digsToPut) := goodIn_app (goodIn_of _ (by decide +kernel)) ggX6_bedsFor_X4_digsToPut
theorem dX6_bedsFor_0 : decode cX6_bedsFor 0 = .ok (.aload_n 0, 1) := by decide +kernel
theorem dX6_bedsFor_1 : decode cX6_bedsFor 1 = .ok (.getfield 12, 3) := by decide +kernel
theorem dX6_bedsFor_4 : decode cX6_bedsFor 4 = .ok (.iload_n 1, 1) := by decide +kernel
theorem dX6_bedsFor_5 : decode cX6_bedsFor 5 = .ok (.invokevirtual 89, 3) := by decide +kernel
theorem dX6_bedsFor_8 : decode cX6_bedsFor 8 = .ok (.invokestatic 34, 3) := by decide +kernel
theorem dX6_bedsFor_11 : decode cX6_bedsFor 11 = .ok (.aload_n 0, 1) := by decide +kernel
theorem dX6_bedsFor_12 : decode cX6_bedsFor 12 = .ok (.getfield 12, 3) := by decide +kernel
theorem dX6_bedsFor_15 : decode cX6_bedsFor 15 = .ok (.iload_n 1, 1) := by decide +kernel
theorem dX6_bedsFor_16 : decode cX6_bedsFor 16 = .ok (.invokevirtual 134, 3) := by decide +kernel
theorem dX6_bedsFor_19 : decode cX6_bedsFor 19 = .ok (.ireturn, 1) := by decide +kernel
set_option maxRecDepth 20000 in
theorem ggX6_reason_X4_draftedFault : GoodIn wsX6_reason wsX4_draftedFault := goodIn_r _ [6, 7, 8, 9, 10, 104, 105, 106, 107, 108, 109, 110, 111, 112, 113] (by decide +kernel) (by decide +kernel)
set_option maxRecDepth 20000 in
theorem gX6_reason_X4_draftedFault : GoodIn wsX6_reason (wsV RX6 89 RX4 yX4_draftedFault wsX4_draftedFault) := goodIn_app (goodIn_of _ (by decide +kernel)) ggX6_reason_X4_draftedFault
set_option maxRecDepth 20000 in
theorem ggX6_reason_X6_refuse : GoodIn wsX6_reason wsX6_refuse := goodIn_ca (goodIn_ca (goodIn_ca (goodIn_r _ [13, 14, 15, 16, 17, 18, 19] (by decide +kernel) (by decide +kernel)) (goodIn_sub (fun _ h => List.mem_cons_of_mem _ (List.mem_append_left _ (List.mem_append_left _ (List.mem_append_right _ h)))) (by decide +kernel))) (goodIn_sub (fun _ h => List.mem_cons_of_mem _ (List.mem_append_left _ (List.mem_append_right _ h))) (by decide +kernel))) (goodIn_sub (fun _ h => List.mem_cons_of_mem _ (List.mem_append_right _ h)) (by decide +kernel))
set_option maxRecDepth 20000 in
theorem gX6_reason_X6_refuse : GoodIn wsX6_reason (va_wsS RX6 34 yX6_refuse wsX6_refuse) := goodIn_app (goodIn_of _ (by decide +kernel)) ggX6_reason_X6_refuse
set_option maxRecDepth 20000 in
theorem ggX6_reason_X4_hindranceToPut : GoodIn wsX6_reason wsX4_hindranceToPut := goodIn_r _ [23, 24, 25, 26, 5, 27, 28, 29, 30, 31, 32, 33, 34, 35, 36, 37, 38, 39, 40, 41, 42, 43, 44, 45, 46, 47, 48, 49, 50, 51, 52, 53, 54, 55, 56, 57, 58, 59, 9, 60, 61, 62, 63, 64, 65, 66, 67, 68, 69, 70, 71, 72, 73, 74, 75, 76, 77, 78, 79, 80, 81, 82, 83, 84, 85, 86, 87, 88, 89, 90, 91, 92, 93, 94, 95, 96, 97, 98, 99, 100, 104, 105, 106, 107, 108, 109, 110, 111, 112, 113, 114, 115, 116, 117, 118, 119, 120, 121, 122] (by decide +kernel) (by decide +kernel)
set_option maxRecDepth 20000 in
theorem gX6_reason_X4_hindranceToPut : GoodIn wsX6_reason (wsV RX6 137 RX4 yX4_hindranceToPut wsX4_hindranceToPut) := goodIn_app (goodIn_of _ (by decide +kernel)) ggX6_reason_X4_hindranceToPut
theorem dX6_reason_0 : decode cX6_reason 0 = .ok (.aload_n 0, 1) := by decide +kernel
theorem dX6_reason_1 : decode cX6_reason 1 = .ok (.getfield 12, 3) := by decide +kernel
theorem dX6_reason_4 : decode cX6_reason 4 = .ok (.iload_n 1, 1) := by decide +kernel
theorem dX6_reason_5 : decode cX6_reason 5 = .ok (.invokevirtual 89, 3) := by decide +kernel
theorem dX6_reason_8 : decode cX6_reason 8 = .ok (.invokestatic 34, 3) := by decide +kernel
theorem dX6_reason_11 : decode cX6_reason 11 = .ok (.aload_n 0, 1) := by decide +kernel
theorem dX6_reason_12 : decode cX6_reason 12 = .ok (.getfield 12, 3) := by decide +kernel
theorem dX6_reason_15 : decode cX6_reason 15 = .ok (.iload_n 1, 1) := by decide +kernel
theorem dX6_reason_16 : decode cX6_reason 16 = .ok (.invokevirtual 137, 3) := by decide +kernel
theorem dX6_reason_19 : decode cX6_reason 19 = .ok (.ireturn, 1) := by decide +kernel
set_option maxRecDepth 20000 in
theorem ggX6_neededWithout_X4_openReaderFault : GoodIn wsX6_neededWithout wsX4_openReaderFault := goodIn_r _ [6, 7, 8, 9, 10, 11, 12, 5, 13, 14, 15, 16, 40, 41, 42, 43, 44, 45, 46, 47, 48, 49] (by decide +kernel) (by decide +kernel)
set_option maxRecDepth 20000 in
theorem gX6_neededWithout_X4_openReaderFault : GoodIn wsX6_neededWithout (wsV RX6 77 RX4 yX4_openReaderFault wsX4_openReaderFault) := goodIn_app (goodIn_of _ (by decide +kernel)) ggX6_neededWithout_X4_openReaderFault
set_option maxRecDepth 20000 in
theorem ggX6_neededWithout_X6_refuse : GoodIn wsX6_neededWithout wsX6_refuse := goodIn_ca (goodIn_ca (goodIn_ca (goodIn_r _ [19, 20, 21, 22, 23, 24, 25] (by decide +kernel) (by decide +kernel)) (goodIn_sub (fun _ h => List.mem_cons_of_mem _ (List.mem_append_left _ (List.mem_append_left _ (List.mem_append_right _ h)))) (by decide +kernel))) (goodIn_sub (fun _ h => List.mem_cons_of_mem _ (List.mem_append_left _ (List.mem_append_right _ h))) (by decide +kernel))) (goodIn_sub (fun _ h => List.mem_cons_of_mem _ (List.mem_append_right _ h)) (by decide +kernel))
set_option maxRecDepth 20000 in
theorem gX6_neededWithout_X6_refuse : GoodIn wsX6_neededWithout (va_wsS RX6 34 yX6_refuse wsX6_refuse) := goodIn_app (goodIn_of _ (by decide +kernel)) ggX6_neededWithout_X6_refuse
set_option maxRecDepth 20000 in
theorem ggX6_neededWithout_X4_neededCountBut : GoodIn wsX6_neededWithout wsX4_neededCountBut := goodIn_r _ [29, 30, 31, 32, 33, 34, 35, 36, 14, 40, 41, 42, 43, 44, 45, 46, 47, 48, 49] (by decide +kernel) (by decide +kernel)
set_option maxRecDepth 20000 in
theorem gX6_neededWithout_X4_neededCountBut : GoodIn wsX6_neededWithout (wsV RX6 140 RX4 yX4_neededCountBut wsX4_neededCountBut) := goodIn_app (goodIn_of _ (by decide +kernel)) ggX6_neededWithout_X4_neededCountBut
theorem dX6_neededWithout_0 : decode cX6_neededWithout 0 = .ok (.aload_n 0, 1) := by decide +kernel
theorem dX6_neededWithout_1 : decode cX6_neededWithout 1 = .ok (.getfield 12, 3) := by decide +kernel
theorem dX6_neededWithout_4 : decode cX6_neededWithout 4 = .ok (.iload_n 1, 1) := by decide +kernel
theorem dX6_neededWithout_5 : decode cX6_neededWithout 5 = .ok (.invokevirtual 77, 3) := by decide +kernel
theorem dX6_neededWithout_8 : decode cX6_neededWithout 8 = .ok (.invokestatic 34, 3) := by decide +kernel
theorem dX6_neededWithout_11 : decode cX6_neededWithout 11 = .ok (.aload_n 0, 1) := by decide +kernel
theorem dX6_neededWithout_12 : decode cX6_neededWithout 12 = .ok (.getfield 12, 3) := by decide +kernel
theorem dX6_neededWithout_15 : decode cX6_neededWithout 15 = .ok (.iload_n 1, 1) := by decide +kernel
theorem dX6_neededWithout_16 : decode cX6_neededWithout 16 = .ok (.invokevirtual 140, 3) := by decide +kernel
theorem dX6_neededWithout_19 : decode cX6_neededWithout 19 = .ok (.ireturn, 1) := by decide +kernel
set_option maxRecDepth 20000 in
theorem ggX6_changedSince_X4_openReaderFault : GoodIn wsX6_changedSince wsX4_openReaderFault := goodIn_r _ [6, 7, 8, 9, 10, 11, 12, 5, 13, 14, 15, 16, 89, 90, 91, 92, 93, 94, 95, 96, 97, 98] (by decide +kernel) (by decide +kernel)
set_option maxRecDepth 20000 in
theorem gX6_changedSince_X4_openReaderFault : GoodIn wsX6_changedSince (wsV RX6 77 RX4 yX4_openReaderFault wsX4_openReaderFault) := goodIn_app (goodIn_of _ (by decide +kernel)) ggX6_changedSince_X4_openReaderFault
set_option maxRecDepth 20000 in
theorem ggX6_changedSince_X6_refuse : GoodIn wsX6_changedSince wsX6_refuse := goodIn_ca (goodIn_ca (goodIn_ca (goodIn_r _ [19, 20, 21, 22, 23, 24, 25] (by decide +kernel) (by decide +kernel)) (goodIn_sub (fun _ h => List.mem_cons_of_mem _ (List.mem_append_left _ (List.mem_append_left _ (List.mem_append_right _ h)))) (by decide +kernel))) (goodIn_sub (fun _ h => List.mem_cons_of_mem _ (List.mem_append_left _ (List.mem_append_right _ h))) (by decide +kernel))) (goodIn_sub (fun _ h => List.mem_cons_of_mem _ (List.mem_append_right _ h)) (by decide +kernel))
set_option maxRecDepth 20000 in
theorem gX6_changedSince_X6_refuse : GoodIn wsX6_changedSince (va_wsS RX6 34 yX6_refuse wsX6_refuse) := goodIn_app (goodIn_of _ (by decide +kernel)) ggX6_changedSince_X6_refuse
set_option maxRecDepth 20000 in
theorem ggX6_changedSince_X4_differencesTo : GoodIn wsX6_changedSince wsX4_differencesTo := goodIn_r _ [29, 30, 31, 32, 5, 33, 34, 35, 15, 8, 16, 36, 37, 38, 39, 40, 41, 42, 43, 44, 45, 46, 47, 48, 49, 50, 51, 52, 53, 54, 55, 56, 57, 58, 59, 60, 61, 62, 63, 64, 65, 66, 67, 68, 69, 70, 71, 72, 73, 74, 75, 76, 77, 78, 79, 80, 81, 82, 83, 84, 85, 89, 90, 91, 92, 93, 94, 95, 96, 97, 98, 99, 100, 101, 102, 103, 104, 105, 106, 107] (by decide +kernel) (by decide +kernel)
set_option maxRecDepth 20000 in
theorem gX6_changedSince_X4_differencesTo : GoodIn wsX6_changedSince (wsV RX6 143 RX4 yX4_differencesTo wsX4_differencesTo) := goodIn_app (goodIn_of _ (by decide +kernel)) ggX6_changedSince_X4_differencesTo
theorem dX6_changedSince_0 : decode cX6_changedSince 0 = .ok (.aload_n 0, 1) := by decide +kernel
theorem dX6_changedSince_1 : decode cX6_changedSince 1 = .ok (.getfield 12, 3) := by decide +kernel
theorem dX6_changedSince_4 : decode cX6_changedSince 4 = .ok (.iload_n 1, 1) := by decide +kernel
theorem dX6_changedSince_5 : decode cX6_changedSince 5 = .ok (.invokevirtual 77, 3) := by decide +kernel
theorem dX6_changedSince_8 : decode cX6_changedSince 8 = .ok (.invokestatic 34, 3) := by decide +kernel
theorem dX6_changedSince_11 : decode cX6_changedSince 11 = .ok (.aload_n 0, 1) := by decide +kernel
theorem dX6_changedSince_12 : decode cX6_changedSince 12 = .ok (.getfield 12, 3) := by decide +kernel
theorem dX6_changedSince_15 : decode cX6_changedSince 15 = .ok (.iload_n 1, 1) := by decide +kernel
theorem dX6_changedSince_16 : decode cX6_changedSince 16 = .ok (.invokevirtual 143, 3) := by decide +kernel
theorem dX6_changedSince_19 : decode cX6_changedSince 19 = .ok (.ireturn, 1) := by decide +kernel
set_option maxRecDepth 20000 in
theorem ggX6_undo_X6_refuse : GoodIn wsX6_undo wsX6_refuse := goodIn_ca (goodIn_ca (goodIn_ca (goodIn_r _ [6, 7, 8, 9, 10, 11, 12] (by decide +kernel) (by decide +kernel)) (goodIn_sub (fun _ h => List.mem_cons_of_mem _ (List.mem_append_left _ (List.mem_append_left _ (List.mem_append_right _ h)))) (by decide +kernel))) (goodIn_sub (fun _ h => List.mem_cons_of_mem _ (List.mem_append_left _ (List.mem_append_right _ h))) (by decide +kernel))) (goodIn_sub (fun _ h => List.mem_cons_of_mem _ (List.mem_append_right _ h)) (by decide +kernel))
set_option maxRecDepth 20000 in
theorem gX6_undo_X6_refuse : GoodIn wsX6_undo (va_wsS RX6 34 yX6_refuse wsX6_refuse) := goodIn_app (goodIn_of _ (by decide +kernel)) ggX6_undo_X6_refuse
set_option maxRecDepth 20000 in
theorem ggX6_undo_X5_restore : GoodIn wsX6_undo wsX5_restore := goodIn_r _ [17, 18, 19, 20, 21, 22, 16, 23, 24, 25, 26, 27, 28, 29, 30, 31, 32, 33, 34, 35, 36, 37, 38, 39, 40, 41, 42, 43, 44, 45, 46, 47, 48, 49, 50, 51, 52, 53, 54, 5, 55, 59, 60, 61, 62, 63, 64, 65, 66, 67, 68, 69, 70, 71, 72, 73, 74, 75, 76, 77, 78, 79, 80] (by decide +kernel) (by decide +kernel)
set_option maxRecDepth 20000 in
theorem gX6_undo_X5_restore : GoodIn wsX6_undo (wsV RX6 180 RX5 yX5_restore wsX5_restore) := goodIn_app (goodIn_of _ (by decide +kernel)) ggX6_undo_X5_restore
theorem dX6_undo_0 : decode cX6_undo 0 = .ok (.aload_n 0, 1) := by decide +kernel
theorem dX6_undo_1 : decode cX6_undo 1 = .ok (.getfield 19, 3) := by decide +kernel
theorem dX6_undo_4 : decode cX6_undo 4 = .ok (.getfield 177, 3) := by decide +kernel
theorem dX6_undo_7 : decode cX6_undo 7 = .ok (.ifCond .le 7, 3) := by decide +kernel
theorem dX6_undo_10 : decode cX6_undo 10 = .ok (.iconst 0, 1) := by decide +kernel
theorem dX6_undo_11 : decode cX6_undo 11 = .ok (.goto 4, 3) := by decide +kernel
theorem dX6_undo_14 : decode cX6_undo 14 = .ok (.iconst 3, 1) := by decide +kernel
theorem dX6_undo_15 : decode cX6_undo 15 = .ok (.invokestatic 34, 3) := by decide +kernel
theorem dX6_undo_18 : decode cX6_undo 18 = .ok (.aload_n 0, 1) := by decide +kernel
theorem dX6_undo_19 : decode cX6_undo 19 = .ok (.getfield 19, 3) := by decide +kernel
theorem dX6_undo_22 : decode cX6_undo 22 = .ok (.aload_n 0, 1) := by decide +kernel
theorem dX6_undo_23 : decode cX6_undo 23 = .ok (.getfield 12, 3) := by decide +kernel
theorem dX6_undo_26 : decode cX6_undo 26 = .ok (.invokevirtual 180, 3) := by decide +kernel
theorem dX6_undo_29 : decode cX6_undo 29 = .ok (.ireturn, 1) := by decide +kernel
theorem dX6_refuse_0 : decode cX6_refuse 0 = .ok (.iload_n 0, 1) := by decide +kernel
theorem dX6_refuse_1 : decode cX6_refuse 1 = .ok (.iconst 1, 1) := by decide +kernel
theorem dX6_refuse_2 : decode cX6_refuse 2 = .ok (.if_icmp .ne 13, 3) := by decide +kernel
theorem dX6_refuse_5 : decode cX6_refuse 5 = .ok (.new 235, 3) := by decide +kernel
theorem dX6_refuse_8 : decode cX6_refuse 8 = .ok (.dup, 1) := by decide +kernel
theorem dX6_refuse_9 : decode cX6_refuse 9 = .ok (.ldc 237, 2) := by decide +kernel
theorem dX6_refuse_11 : decode cX6_refuse 11 = .ok (.invokespecial 239, 3) := by decide +kernel
theorem dX6_refuse_14 : decode cX6_refuse 14 = .ok (.athrow, 1) := by decide +kernel
theorem dX6_refuse_15 : decode cX6_refuse 15 = .ok (.iload_n 0, 1) := by decide +kernel
theorem dX6_refuse_16 : decode cX6_refuse 16 = .ok (.iconst 2, 1) := by decide +kernel
theorem dX6_refuse_17 : decode cX6_refuse 17 = .ok (.if_icmp .ne 13, 3) := by decide +kernel
theorem dX6_refuse_20 : decode cX6_refuse 20 = .ok (.new 242, 3) := by decide +kernel
theorem dX6_refuse_23 : decode cX6_refuse 23 = .ok (.dup, 1) := by decide +kernel
theorem dX6_refuse_24 : decode cX6_refuse 24 = .ok (.ldc 244, 2) := by decide +kernel
theorem dX6_refuse_26 : decode cX6_refuse 26 = .ok (.invokespecial 246, 3) := by decide +kernel
theorem dX6_refuse_29 : decode cX6_refuse 29 = .ok (.athrow, 1) := by decide +kernel
theorem dX6_refuse_30 : decode cX6_refuse 30 = .ok (.iload_n 0, 1) := by decide +kernel
theorem dX6_refuse_31 : decode cX6_refuse 31 = .ok (.iconst 3, 1) := by decide +kernel
theorem dX6_refuse_32 : decode cX6_refuse 32 = .ok (.if_icmp .ne 13, 3) := by decide +kernel
theorem dX6_refuse_35 : decode cX6_refuse 35 = .ok (.new 247, 3) := by decide +kernel
theorem dX6_refuse_38 : decode cX6_refuse 38 = .ok (.dup, 1) := by decide +kernel
theorem dX6_refuse_39 : decode cX6_refuse 39 = .ok (.ldc 249, 2) := by decide +kernel
theorem dX6_refuse_41 : decode cX6_refuse 41 = .ok (.invokespecial 251, 3) := by decide +kernel
theorem dX6_refuse_44 : decode cX6_refuse 44 = .ok (.athrow, 1) := by decide +kernel
theorem dX6_refuse_45 : decode cX6_refuse 45 = .ok (.return_, 1) := by decide +kernel
set_option maxRecDepth 20000 in
theorem ggX6_partFault_X6_isBelow : GoodIn wsX6_partFault wsX6_isBelow := goodIn_r _ [4] (by decide +kernel) (by decide +kernel)
set_option maxRecDepth 20000 in
theorem gX6_partFault_X6_isBelow : GoodIn wsX6_partFault (va_wsS RX6 120 yX6_isBelow wsX6_isBelow) := goodIn_app (goodIn_of _ (by decide +kernel)) ggX6_partFault_X6_isBelow
theorem dX6_partFault_0 : decode cX6_partFault 0 = .ok (.iload_n 0, 1) := by decide +kernel
theorem dX6_partFault_1 : decode cX6_partFault 1 = .ok (.iload_n 1, 1) := by decide +kernel
theorem dX6_partFault_2 : decode cX6_partFault 2 = .ok (.invokestatic 120, 3) := by decide +kernel
theorem dX6_partFault_5 : decode cX6_partFault 5 = .ok (.ifCond .ne 5, 3) := by decide +kernel
theorem dX6_partFault_8 : decode cX6_partFault 8 = .ok (.iconst 1, 1) := by decide +kernel
theorem dX6_partFault_9 : decode cX6_partFault 9 = .ok (.ireturn, 1) := by decide +kernel
theorem dX6_partFault_10 : decode cX6_partFault 10 = .ok (.iload_n 2, 1) := by decide +kernel
theorem dX6_partFault_11 : decode cX6_partFault 11 = .ok (.iload_n 3, 1) := by decide +kernel
theorem dX6_partFault_12 : decode cX6_partFault 12 = .ok (.invokestatic 120, 3) := by decide +kernel
theorem dX6_partFault_15 : decode cX6_partFault 15 = .ok (.ifCond .eq 7, 3) := by decide +kernel
theorem dX6_partFault_18 : decode cX6_partFault 18 = .ok (.iconst 0, 1) := by decide +kernel
theorem dX6_partFault_19 : decode cX6_partFault 19 = .ok (.goto 4, 3) := by decide +kernel
theorem dX6_partFault_22 : decode cX6_partFault 22 = .ok (.iconst 2, 1) := by decide +kernel
theorem dX6_partFault_23 : decode cX6_partFault 23 = .ok (.ireturn, 1) := by decide +kernel
set_option maxRecDepth 20000 in
theorem ggX6_keyFault_X6_isBelow : GoodIn wsX6_keyFault wsX6_isBelow := goodIn_r _ [4] (by decide +kernel) (by decide +kernel)
set_option maxRecDepth 20000 in
theorem gX6_keyFault_X6_isBelow : GoodIn wsX6_keyFault (va_wsS RX6 120 yX6_isBelow wsX6_isBelow) := goodIn_app (goodIn_of _ (by decide +kernel)) ggX6_keyFault_X6_isBelow
theorem dX6_keyFault_0 : decode cX6_keyFault 0 = .ok (.iload_n 0, 1) := by decide +kernel
theorem dX6_keyFault_1 : decode cX6_keyFault 1 = .ok (.bipush 100, 2) := by decide +kernel
theorem dX6_keyFault_3 : decode cX6_keyFault 3 = .ok (.invokestatic 120, 3) := by decide +kernel
theorem dX6_keyFault_6 : decode cX6_keyFault 6 = .ok (.ifCond .eq 7, 3) := by decide +kernel
theorem dX6_keyFault_9 : decode cX6_keyFault 9 = .ok (.iconst 0, 1) := by decide +kernel
theorem dX6_keyFault_10 : decode cX6_keyFault 10 = .ok (.goto 4, 3) := by decide +kernel
theorem dX6_keyFault_13 : decode cX6_keyFault 13 = .ok (.iconst 2, 1) := by decide +kernel
theorem dX6_keyFault_14 : decode cX6_keyFault 14 = .ok (.ireturn, 1) := by decide +kernel
theorem dX6_isBelow_0 : decode cX6_isBelow 0 = .ok (.iload_n 0, 1) := by decide +kernel
theorem dX6_isBelow_1 : decode cX6_isBelow 1 = .ok (.ifCond .lt 12, 3) := by decide +kernel
theorem dX6_isBelow_4 : decode cX6_isBelow 4 = .ok (.iload_n 0, 1) := by decide +kernel
theorem dX6_isBelow_5 : decode cX6_isBelow 5 = .ok (.iload_n 1, 1) := by decide +kernel
theorem dX6_isBelow_6 : decode cX6_isBelow 6 = .ok (.if_icmp .ge 7, 3) := by decide +kernel
theorem dX6_isBelow_9 : decode cX6_isBelow 9 = .ok (.iconst 1, 1) := by decide +kernel
theorem dX6_isBelow_10 : decode cX6_isBelow 10 = .ok (.goto 4, 3) := by decide +kernel
theorem dX6_isBelow_13 : decode cX6_isBelow 13 = .ok (.iconst 0, 1) := by decide +kernel
theorem dX6_isBelow_14 : decode cX6_isBelow 14 = .ok (.ireturn, 1) := by decide +kernel
theorem dX6_one_0 : decode cX6_one 0 = .ok (.iload_n 0, 1) := by decide +kernel
theorem dX6_one_1 : decode cX6_one 1 = .ok (.ifCond .eq 7, 3) := by decide +kernel
theorem dX6_one_4 : decode cX6_one 4 = .ok (.iconst 1, 1) := by decide +kernel
theorem dX6_one_5 : decode cX6_one 5 = .ok (.goto 4, 3) := by decide +kernel
theorem dX6_one_8 : decode cX6_one 8 = .ok (.iconst 0, 1) := by decide +kernel
theorem dX6_one_9 : decode cX6_one 9 = .ok (.ireturn, 1) := by decide +kernel
theorem dX6_cell_0 : decode cX6_cell 0 = .ok (.iload_n 1, 1) := by decide +kernel
theorem dX6_cell_1 : decode cX6_cell 1 = .ok (.ifCond .lt 15, 3) := by decide +kernel
theorem dX6_cell_4 : decode cX6_cell 4 = .ok (.iload_n 1, 1) := by decide +kernel
theorem dX6_cell_5 : decode cX6_cell 5 = .ok (.aload_n 0, 1) := by decide +kernel
theorem dX6_cell_6 : decode cX6_cell 6 = .ok (.arraylength, 1) := by decide +kernel
theorem dX6_cell_7 : decode cX6_cell 7 = .ok (.if_icmp .ge 9, 3) := by decide +kernel
theorem dX6_cell_10 : decode cX6_cell 10 = .ok (.aload_n 0, 1) := by decide +kernel
theorem dX6_cell_11 : decode cX6_cell 11 = .ok (.iload_n 1, 1) := by decide +kernel
theorem dX6_cell_12 : decode cX6_cell 12 = .ok (.iaload, 1) := by decide +kernel
theorem dX6_cell_13 : decode cX6_cell 13 = .ok (.goto 6, 3) := by decide +kernel
theorem dX6_cell_16 : decode cX6_cell 16 = .ok (.sipush (-1000), 3) := by decide +kernel
theorem dX6_cell_19 : decode cX6_cell 19 = .ok (.ireturn, 1) := by decide +kernel
theorem dX6_setCell_0 : decode cX6_setCell 0 = .ok (.iload_n 1, 1) := by decide +kernel
theorem dX6_setCell_1 : decode cX6_setCell 1 = .ok (.ifCond .lt 13, 3) := by decide +kernel
theorem dX6_setCell_4 : decode cX6_setCell 4 = .ok (.iload_n 1, 1) := by decide +kernel
theorem dX6_setCell_5 : decode cX6_setCell 5 = .ok (.aload_n 0, 1) := by decide +kernel
theorem dX6_setCell_6 : decode cX6_setCell 6 = .ok (.arraylength, 1) := by decide +kernel
theorem dX6_setCell_7 : decode cX6_setCell 7 = .ok (.if_icmp .ge 7, 3) := by decide +kernel
theorem dX6_setCell_10 : decode cX6_setCell 10 = .ok (.aload_n 0, 1) := by decide +kernel
theorem dX6_setCell_11 : decode cX6_setCell 11 = .ok (.iload_n 1, 1) := by decide +kernel
theorem dX6_setCell_12 : decode cX6_setCell 12 = .ok (.iload_n 2, 1) := by decide +kernel
theorem dX6_setCell_13 : decode cX6_setCell 13 = .ok (.iastore, 1) := by decide +kernel
theorem dX6_setCell_14 : decode cX6_setCell 14 = .ok (.return_, 1) := by decide +kernel
theorem dX6_copyRow_0 : decode cX6_copyRow 0 = .ok (.iconst 0, 1) := by decide +kernel
theorem dX6_copyRow_1 : decode cX6_copyRow 1 = .ok (.istore_n 2, 1) := by decide +kernel
theorem dX6_copyRow_2 : decode cX6_copyRow 2 = .ok (.iload_n 2, 1) := by decide +kernel
theorem dX6_copyRow_3 : decode cX6_copyRow 3 = .ok (.aload_n 0, 1) := by decide +kernel
theorem dX6_copyRow_4 : decode cX6_copyRow 4 = .ok (.arraylength, 1) := by decide +kernel
theorem dX6_copyRow_5 : decode cX6_copyRow 5 = .ok (.if_icmp .ge 21, 3) := by decide +kernel
theorem dX6_copyRow_8 : decode cX6_copyRow 8 = .ok (.iload_n 2, 1) := by decide +kernel
theorem dX6_copyRow_9 : decode cX6_copyRow 9 = .ok (.aload_n 1, 1) := by decide +kernel
theorem dX6_copyRow_10 : decode cX6_copyRow 10 = .ok (.arraylength, 1) := by decide +kernel
theorem dX6_copyRow_11 : decode cX6_copyRow 11 = .ok (.if_icmp .ge 15, 3) := by decide +kernel
theorem dX6_copyRow_14 : decode cX6_copyRow 14 = .ok (.aload_n 1, 1) := by decide +kernel
theorem dX6_copyRow_15 : decode cX6_copyRow 15 = .ok (.iload_n 2, 1) := by decide +kernel
theorem dX6_copyRow_16 : decode cX6_copyRow 16 = .ok (.aload_n 0, 1) := by decide +kernel
theorem dX6_copyRow_17 : decode cX6_copyRow 17 = .ok (.iload_n 2, 1) := by decide +kernel
theorem dX6_copyRow_18 : decode cX6_copyRow 18 = .ok (.iaload, 1) := by decide +kernel
theorem dX6_copyRow_19 : decode cX6_copyRow 19 = .ok (.iastore, 1) := by decide +kernel
theorem dX6_copyRow_20 : decode cX6_copyRow 20 = .ok (.iinc 2 1, 3) := by decide +kernel
theorem dX6_copyRow_23 : decode cX6_copyRow 23 = .ok (.goto (-21), 3) := by decide +kernel
theorem dX6_copyRow_26 : decode cX6_copyRow 26 = .ok (.return_, 1) := by decide +kernel
theorem dX6_fillRow_0 : decode cX6_fillRow 0 = .ok (.iconst 0, 1) := by decide +kernel
theorem dX6_fillRow_1 : decode cX6_fillRow 1 = .ok (.istore_n 2, 1) := by decide +kernel
theorem dX6_fillRow_2 : decode cX6_fillRow 2 = .ok (.iload_n 2, 1) := by decide +kernel
theorem dX6_fillRow_3 : decode cX6_fillRow 3 = .ok (.aload_n 0, 1) := by decide +kernel
theorem dX6_fillRow_4 : decode cX6_fillRow 4 = .ok (.arraylength, 1) := by decide +kernel
theorem dX6_fillRow_5 : decode cX6_fillRow 5 = .ok (.if_icmp .ge 13, 3) := by decide +kernel
theorem dX6_fillRow_8 : decode cX6_fillRow 8 = .ok (.aload_n 0, 1) := by decide +kernel
theorem dX6_fillRow_9 : decode cX6_fillRow 9 = .ok (.iload_n 2, 1) := by decide +kernel
theorem dX6_fillRow_10 : decode cX6_fillRow 10 = .ok (.iload_n 1, 1) := by decide +kernel
theorem dX6_fillRow_11 : decode cX6_fillRow 11 = .ok (.iastore, 1) := by decide +kernel
theorem dX6_fillRow_12 : decode cX6_fillRow 12 = .ok (.iinc 2 1, 3) := by decide +kernel
theorem dX6_fillRow_15 : decode cX6_fillRow 15 = .ok (.goto (-13), 3) := by decide +kernel
theorem dX6_fillRow_18 : decode cX6_fillRow 18 = .ok (.return_, 1) := by decide +kernel
theorem dJ9_min_7cf53_0 : decode cJ9_min_7cf53 0 = .ok (.iload_n 0, 1) := by decide +kernel
theorem dJ9_min_7cf53_1 : decode cJ9_min_7cf53 1 = .ok (.iload_n 1, 1) := by decide +kernel
theorem dJ9_min_7cf53_2 : decode cJ9_min_7cf53 2 = .ok (.if_icmp .gt 7, 3) := by decide +kernel
theorem dJ9_min_7cf53_5 : decode cJ9_min_7cf53 5 = .ok (.iload_n 0, 1) := by decide +kernel
theorem dJ9_min_7cf53_6 : decode cJ9_min_7cf53 6 = .ok (.goto 4, 3) := by decide +kernel
theorem dJ9_min_7cf53_9 : decode cJ9_min_7cf53 9 = .ok (.iload_n 1, 1) := by decide +kernel
theorem dJ9_min_7cf53_10 : decode cJ9_min_7cf53 10 = .ok (.ireturn, 1) := by decide +kernel
