def la_ty (k : Nat → ClassId) : List (ClassId × FieldType) := [(k 0, .int), (k 1, .double), (k 2, .object "HearingDesk$Pattern"), (k 3, .object "HearingDesk$Word"), (k 4, .long)]
theorem dLa_octets_0 : decode cLa_octets 0 = .ok (.aload 4, 2) := by decide +kernel
theorem dLa_octets_2 : decode cLa_octets 2 = .ok (.iconst 0, 1) := by decide +kernel
theorem dLa_octets_3 : decode cLa_octets 3 = .ok (.aload_n 0, 1) := by decide +kernel
theorem dLa_octets_4 : decode cLa_octets 4 = .ok (.iload_n 1, 1) := by decide +kernel
theorem dLa_octets_5 : decode cLa_octets 5 = .ok (.lload_n 2, 1) := by decide +kernel
theorem dLa_octets_6 : decode cLa_octets 6 = .ok (.invokevirtual 7, 3) := by decide +kernel
theorem dLa_octets_9 : decode cLa_octets 9 = .ok (.i2l, 1) := by decide +kernel
theorem dLa_octets_10 : decode cLa_octets 10 = .ok (.lastore, 1) := by decide +kernel
theorem dLa_octets_11 : decode cLa_octets 11 = .ok (.goto 11, 3) := by decide +kernel
theorem dLa_octets_14 : decode cLa_octets 14 = .ok (.astore 5, 2) := by decide +kernel
theorem dLa_octets_16 : decode cLa_octets 16 = .ok (.iconst 1, 1) := by decide +kernel
theorem dLa_octets_17 : decode cLa_octets 17 = .ok (.ireturn, 1) := by decide +kernel
theorem dLa_octets_18 : decode cLa_octets 18 = .ok (.astore 5, 2) := by decide +kernel
theorem dLa_octets_20 : decode cLa_octets 20 = .ok (.iconst 2, 1) := by decide +kernel
theorem dLa_octets_21 : decode cLa_octets 21 = .ok (.ireturn, 1) := by decide +kernel
theorem dLa_octets_22 : decode cLa_octets 22 = .ok (.iconst 0, 1) := by decide +kernel
theorem dLa_octets_23 : decode cLa_octets 23 = .ok (.ireturn, 1) := by decide +kernel
theorem dLa_read_0 : decode cLa_read 0 = .ok (.aload_n 1, 1) := by decide +kernel
theorem dLa_read_1 : decode cLa_read 1 = .ok (.iconst 0, 1) := by decide +kernel
theorem dLa_read_2 : decode cLa_read 2 = .ok (.aload_n 0, 1) := by decide +kernel
theorem dLa_read_3 : decode cLa_read 3 = .ok (.invokevirtual 17, 3) := by decide +kernel
theorem dLa_read_6 : decode cLa_read 6 = .ok (.i2l, 1) := by decide +kernel
theorem dLa_read_7 : decode cLa_read 7 = .ok (.lastore, 1) := by decide +kernel
theorem dLa_read_8 : decode cLa_read 8 = .ok (.goto 9, 3) := by decide +kernel
theorem dLa_read_11 : decode cLa_read 11 = .ok (.astore_n 2, 1) := by decide +kernel
theorem dLa_read_12 : decode cLa_read 12 = .ok (.iconst 1, 1) := by decide +kernel
theorem dLa_read_13 : decode cLa_read 13 = .ok (.ireturn, 1) := by decide +kernel
theorem dLa_read_14 : decode cLa_read 14 = .ok (.astore_n 2, 1) := by decide +kernel
theorem dLa_read_15 : decode cLa_read 15 = .ok (.iconst 2, 1) := by decide +kernel
theorem dLa_read_16 : decode cLa_read 16 = .ok (.ireturn, 1) := by decide +kernel
theorem dLa_read_17 : decode cLa_read 17 = .ok (.iconst 0, 1) := by decide +kernel
theorem dLa_read_18 : decode cLa_read 18 = .ok (.ireturn, 1) := by decide +kernel
theorem dLa_wave_0 : decode cLa_wave 0 = .ok (.aload 5, 2) := by decide +kernel
theorem dLa_wave_2 : decode cLa_wave 2 = .ok (.iconst 0, 1) := by decide +kernel
theorem dLa_wave_3 : decode cLa_wave 3 = .ok (.aload_n 0, 1) := by decide +kernel
theorem dLa_wave_4 : decode cLa_wave 4 = .ok (.iload_n 1, 1) := by decide +kernel
theorem dLa_wave_5 : decode cLa_wave 5 = .ok (.iload_n 2, 1) := by decide +kernel
theorem dLa_wave_6 : decode cLa_wave 6 = .ok (.dload_n 3, 1) := by decide +kernel
theorem dLa_wave_7 : decode cLa_wave 7 = .ok (.invokevirtual 21, 3) := by decide +kernel
theorem dLa_wave_10 : decode cLa_wave 10 = .ok (.i2l, 1) := by decide +kernel
theorem dLa_wave_11 : decode cLa_wave 11 = .ok (.lastore, 1) := by decide +kernel
theorem dLa_wave_12 : decode cLa_wave 12 = .ok (.goto 11, 3) := by decide +kernel
theorem dLa_wave_15 : decode cLa_wave 15 = .ok (.astore 6, 2) := by decide +kernel
theorem dLa_wave_17 : decode cLa_wave 17 = .ok (.iconst 1, 1) := by decide +kernel
theorem dLa_wave_18 : decode cLa_wave 18 = .ok (.ireturn, 1) := by decide +kernel
theorem dLa_wave_19 : decode cLa_wave 19 = .ok (.astore 6, 2) := by decide +kernel
theorem dLa_wave_21 : decode cLa_wave 21 = .ok (.iconst 2, 1) := by decide +kernel
theorem dLa_wave_22 : decode cLa_wave 22 = .ok (.ireturn, 1) := by decide +kernel
theorem dLa_wave_23 : decode cLa_wave 23 = .ok (.iconst 0, 1) := by decide +kernel
theorem dLa_wave_24 : decode cLa_wave 24 = .ok (.ireturn, 1) := by decide +kernel
theorem dLa_sample_0 : decode cLa_sample 0 = .ok (.aload_n 2, 1) := by decide +kernel
theorem dLa_sample_1 : decode cLa_sample 1 = .ok (.iconst 0, 1) := by decide +kernel
theorem dLa_sample_2 : decode cLa_sample 2 = .ok (.aload_n 0, 1) := by decide +kernel
theorem dLa_sample_3 : decode cLa_sample 3 = .ok (.iload_n 1, 1) := by decide +kernel
theorem dLa_sample_4 : decode cLa_sample 4 = .ok (.invokevirtual 25, 3) := by decide +kernel
theorem dLa_sample_7 : decode cLa_sample 7 = .ok (.dastore, 1) := by decide +kernel
theorem dLa_sample_8 : decode cLa_sample 8 = .ok (.goto 6, 3) := by decide +kernel
theorem dLa_sample_11 : decode cLa_sample 11 = .ok (.astore_n 3, 1) := by decide +kernel
theorem dLa_sample_12 : decode cLa_sample 12 = .ok (.iconst 1, 1) := by decide +kernel
theorem dLa_sample_13 : decode cLa_sample 13 = .ok (.ireturn, 1) := by decide +kernel
theorem dLa_sample_14 : decode cLa_sample 14 = .ok (.iconst 0, 1) := by decide +kernel
theorem dLa_sample_15 : decode cLa_sample 15 = .ok (.ireturn, 1) := by decide +kernel
theorem dLa_power_0 : decode cLa_power 0 = .ok (.aload_n 3, 1) := by decide +kernel
theorem dLa_power_1 : decode cLa_power 1 = .ok (.iconst 0, 1) := by decide +kernel
theorem dLa_power_2 : decode cLa_power 2 = .ok (.aload_n 0, 1) := by decide +kernel
theorem dLa_power_3 : decode cLa_power 3 = .ok (.iload_n 1, 1) := by decide +kernel
theorem dLa_power_4 : decode cLa_power 4 = .ok (.iload_n 2, 1) := by decide +kernel
theorem dLa_power_5 : decode cLa_power 5 = .ok (.invokevirtual 29, 3) := by decide +kernel
theorem dLa_power_8 : decode cLa_power 8 = .ok (.dastore, 1) := by decide +kernel
theorem dLa_power_9 : decode cLa_power 9 = .ok (.goto 11, 3) := by decide +kernel
theorem dLa_power_12 : decode cLa_power 12 = .ok (.astore 4, 2) := by decide +kernel
theorem dLa_power_14 : decode cLa_power 14 = .ok (.iconst 1, 1) := by decide +kernel
theorem dLa_power_15 : decode cLa_power 15 = .ok (.ireturn, 1) := by decide +kernel
theorem dLa_power_16 : decode cLa_power 16 = .ok (.astore 4, 2) := by decide +kernel
theorem dLa_power_18 : decode cLa_power 18 = .ok (.iconst 2, 1) := by decide +kernel
theorem dLa_power_19 : decode cLa_power 19 = .ok (.ireturn, 1) := by decide +kernel
theorem dLa_power_20 : decode cLa_power 20 = .ok (.iconst 0, 1) := by decide +kernel
theorem dLa_power_21 : decode cLa_power 21 = .ok (.ireturn, 1) := by decide +kernel
theorem dLa_level_0 : decode cLa_level 0 = .ok (.aload_n 3, 1) := by decide +kernel
theorem dLa_level_1 : decode cLa_level 1 = .ok (.iconst 0, 1) := by decide +kernel
theorem dLa_level_2 : decode cLa_level 2 = .ok (.aload_n 0, 1) := by decide +kernel
theorem dLa_level_3 : decode cLa_level 3 = .ok (.iload_n 1, 1) := by decide +kernel
theorem dLa_level_4 : decode cLa_level 4 = .ok (.iload_n 2, 1) := by decide +kernel
theorem dLa_level_5 : decode cLa_level 5 = .ok (.invokevirtual 33, 3) := by decide +kernel
theorem dLa_level_8 : decode cLa_level 8 = .ok (.dastore, 1) := by decide +kernel
theorem dLa_level_9 : decode cLa_level 9 = .ok (.goto 11, 3) := by decide +kernel
theorem dLa_level_12 : decode cLa_level 12 = .ok (.astore 4, 2) := by decide +kernel
theorem dLa_level_14 : decode cLa_level 14 = .ok (.iconst 1, 1) := by decide +kernel
theorem dLa_level_15 : decode cLa_level 15 = .ok (.ireturn, 1) := by decide +kernel
theorem dLa_level_16 : decode cLa_level 16 = .ok (.astore 4, 2) := by decide +kernel
theorem dLa_level_18 : decode cLa_level 18 = .ok (.iconst 2, 1) := by decide +kernel
theorem dLa_level_19 : decode cLa_level 19 = .ok (.ireturn, 1) := by decide +kernel
theorem dLa_level_20 : decode cLa_level 20 = .ok (.iconst 0, 1) := by decide +kernel
theorem dLa_level_21 : decode cLa_level 21 = .ok (.ireturn, 1) := by decide +kernel
theorem dLa_ways_0 : decode cLa_ways 0 = .ok (.aload_n 0, 1) := by decide +kernel
theorem dLa_ways_1 : decode cLa_ways 1 = .ok (.dload_n 1, 1) := by decide +kernel
theorem dLa_ways_2 : decode cLa_ways 2 = .ok (.iload_n 3, 1) := by decide +kernel
theorem dLa_ways_3 : decode cLa_ways 3 = .ok (.dload 4, 2) := by decide +kernel
theorem dLa_ways_5 : decode cLa_ways 5 = .ok (.invokevirtual 36, 3) := by decide +kernel
theorem dLa_ways_8 : decode cLa_ways 8 = .ok (.goto 7, 3) := by decide +kernel
theorem dLa_ways_11 : decode cLa_ways 11 = .ok (.astore 6, 2) := by decide +kernel
theorem dLa_ways_13 : decode cLa_ways 13 = .ok (.iconst 1, 1) := by decide +kernel
theorem dLa_ways_14 : decode cLa_ways 14 = .ok (.ireturn, 1) := by decide +kernel
theorem dLa_ways_15 : decode cLa_ways 15 = .ok (.iconst 0, 1) := by decide +kernel
theorem dLa_ways_16 : decode cLa_ways 16 = .ok (.ireturn, 1) := by decide +kernel
theorem dLa_learn_0 : decode cLa_learn 0 = .ok (.aload 4, 2) := by decide +kernel
theorem dLa_learn_2 : decode cLa_learn 2 = .ok (.iconst 0, 1) := by decide +kernel
theorem dLa_learn_3 : decode cLa_learn 3 = .ok (.aload_n 0, 1) := by decide +kernel
theorem dLa_learn_4 : decode cLa_learn 4 = .ok (.iload_n 1, 1) := by decide +kernel
theorem dLa_learn_5 : decode cLa_learn 5 = .ok (.iload_n 2, 1) := by decide +kernel
theorem dLa_learn_6 : decode cLa_learn 6 = .ok (.iload_n 3, 1) := by decide +kernel
theorem dLa_learn_7 : decode cLa_learn 7 = .ok (.invokevirtual 40, 3) := by decide +kernel
theorem dLa_learn_10 : decode cLa_learn 10 = .ok (.i2l, 1) := by decide +kernel
theorem dLa_learn_11 : decode cLa_learn 11 = .ok (.lastore, 1) := by decide +kernel
theorem dLa_learn_12 : decode cLa_learn 12 = .ok (.goto 11, 3) := by decide +kernel
theorem dLa_learn_15 : decode cLa_learn 15 = .ok (.astore 5, 2) := by decide +kernel
theorem dLa_learn_17 : decode cLa_learn 17 = .ok (.iconst 1, 1) := by decide +kernel
theorem dLa_learn_18 : decode cLa_learn 18 = .ok (.ireturn, 1) := by decide +kernel
theorem dLa_learn_19 : decode cLa_learn 19 = .ok (.astore 5, 2) := by decide +kernel
theorem dLa_learn_21 : decode cLa_learn 21 = .ok (.iconst 2, 1) := by decide +kernel
theorem dLa_learn_22 : decode cLa_learn 22 = .ok (.ireturn, 1) := by decide +kernel
theorem dLa_learn_23 : decode cLa_learn 23 = .ok (.iconst 0, 1) := by decide +kernel
theorem dLa_learn_24 : decode cLa_learn 24 = .ok (.ireturn, 1) := by decide +kernel
theorem dLa_forget_0 : decode cLa_forget 0 = .ok (.aload_n 2, 1) := by decide +kernel
theorem dLa_forget_1 : decode cLa_forget 1 = .ok (.iconst 0, 1) := by decide +kernel
theorem dLa_forget_2 : decode cLa_forget 2 = .ok (.aload_n 0, 1) := by decide +kernel
theorem dLa_forget_3 : decode cLa_forget 3 = .ok (.iload_n 1, 1) := by decide +kernel
theorem dLa_forget_4 : decode cLa_forget 4 = .ok (.invokevirtual 44, 3) := by decide +kernel
theorem dLa_forget_7 : decode cLa_forget 7 = .ok (.i2l, 1) := by decide +kernel
theorem dLa_forget_8 : decode cLa_forget 8 = .ok (.lastore, 1) := by decide +kernel
theorem dLa_forget_9 : decode cLa_forget 9 = .ok (.goto 6, 3) := by decide +kernel
theorem dLa_forget_12 : decode cLa_forget 12 = .ok (.astore_n 3, 1) := by decide +kernel
theorem dLa_forget_13 : decode cLa_forget 13 = .ok (.iconst 1, 1) := by decide +kernel
theorem dLa_forget_14 : decode cLa_forget 14 = .ok (.ireturn, 1) := by decide +kernel
theorem dLa_forget_15 : decode cLa_forget 15 = .ok (.iconst 0, 1) := by decide +kernel
theorem dLa_forget_16 : decode cLa_forget 16 = .ok (.ireturn, 1) := by decide +kernel
theorem dLa_warp_0 : decode cLa_warp 0 = .ok (.aload_n 3, 1) := by decide +kernel
theorem dLa_warp_1 : decode cLa_warp 1 = .ok (.iconst 0, 1) := by decide +kernel
theorem dLa_warp_2 : decode cLa_warp 2 = .ok (.aload_n 0, 1) := by decide +kernel
theorem dLa_warp_3 : decode cLa_warp 3 = .ok (.iload_n 1, 1) := by decide +kernel
theorem dLa_warp_4 : decode cLa_warp 4 = .ok (.iload_n 2, 1) := by decide +kernel
theorem dLa_warp_5 : decode cLa_warp 5 = .ok (.invokevirtual 50, 3) := by decide +kernel
theorem dLa_warp_8 : decode cLa_warp 8 = .ok (.dastore, 1) := by decide +kernel
theorem dLa_warp_9 : decode cLa_warp 9 = .ok (.goto 7, 3) := by decide +kernel
theorem dLa_warp_12 : decode cLa_warp 12 = .ok (.astore 4, 2) := by decide +kernel
theorem dLa_warp_14 : decode cLa_warp 14 = .ok (.iconst 1, 1) := by decide +kernel
theorem dLa_warp_15 : decode cLa_warp 15 = .ok (.ireturn, 1) := by decide +kernel
theorem dLa_warp_16 : decode cLa_warp 16 = .ok (.iconst 0, 1) := by decide +kernel
theorem dLa_warp_17 : decode cLa_warp 17 = .ok (.ireturn, 1) := by decide +kernel
theorem dLa_hear_0 : decode cLa_hear 0 = .ok (.aload_n 1, 1) := by decide +kernel
theorem dLa_hear_1 : decode cLa_hear 1 = .ok (.iconst 0, 1) := by decide +kernel
theorem dLa_hear_2 : decode cLa_hear 2 = .ok (.aload_n 0, 1) := by decide +kernel
theorem dLa_hear_3 : decode cLa_hear 3 = .ok (.invokevirtual 53, 3) := by decide +kernel
theorem dLa_hear_6 : decode cLa_hear 6 = .ok (.i2l, 1) := by decide +kernel
theorem dLa_hear_7 : decode cLa_hear 7 = .ok (.lastore, 1) := by decide +kernel
theorem dLa_hear_8 : decode cLa_hear 8 = .ok (.goto 6, 3) := by decide +kernel
theorem dLa_hear_11 : decode cLa_hear 11 = .ok (.astore_n 2, 1) := by decide +kernel
theorem dLa_hear_12 : decode cLa_hear 12 = .ok (.iconst 1, 1) := by decide +kernel
theorem dLa_hear_13 : decode cLa_hear 13 = .ok (.ireturn, 1) := by decide +kernel
theorem dLa_hear_14 : decode cLa_hear 14 = .ok (.iconst 0, 1) := by decide +kernel
theorem dLa_hear_15 : decode cLa_hear 15 = .ok (.ireturn, 1) := by decide +kernel
theorem dLa_word_0 : decode cLa_word 0 = .ok (.aload_n 3, 1) := by decide +kernel
theorem dLa_word_1 : decode cLa_word 1 = .ok (.iconst 0, 1) := by decide +kernel
theorem dLa_word_2 : decode cLa_word 2 = .ok (.aload_n 0, 1) := by decide +kernel
theorem dLa_word_3 : decode cLa_word 3 = .ok (.iload_n 1, 1) := by decide +kernel
theorem dLa_word_4 : decode cLa_word 4 = .ok (.iload_n 2, 1) := by decide +kernel
theorem dLa_word_5 : decode cLa_word 5 = .ok (.invokevirtual 58, 3) := by decide +kernel
theorem dLa_word_8 : decode cLa_word 8 = .ok (.i2l, 1) := by decide +kernel
theorem dLa_word_9 : decode cLa_word 9 = .ok (.lastore, 1) := by decide +kernel
theorem dLa_word_10 : decode cLa_word 10 = .ok (.goto 11, 3) := by decide +kernel
theorem dLa_word_13 : decode cLa_word 13 = .ok (.astore 4, 2) := by decide +kernel
theorem dLa_word_15 : decode cLa_word 15 = .ok (.iconst 1, 1) := by decide +kernel
theorem dLa_word_16 : decode cLa_word 16 = .ok (.ireturn, 1) := by decide +kernel
theorem dLa_word_17 : decode cLa_word 17 = .ok (.astore 4, 2) := by decide +kernel
theorem dLa_word_19 : decode cLa_word 19 = .ok (.iconst 2, 1) := by decide +kernel
theorem dLa_word_20 : decode cLa_word 20 = .ok (.ireturn, 1) := by decide +kernel
theorem dLa_word_21 : decode cLa_word 21 = .ok (.iconst 0, 1) := by decide +kernel
theorem dLa_word_22 : decode cLa_word 22 = .ok (.ireturn, 1) := by decide +kernel
theorem dLa_cost_0 : decode cLa_cost 0 = .ok (.aload_n 2, 1) := by decide +kernel
theorem dLa_cost_1 : decode cLa_cost 1 = .ok (.iconst 0, 1) := by decide +kernel
theorem dLa_cost_2 : decode cLa_cost 2 = .ok (.aload_n 0, 1) := by decide +kernel
theorem dLa_cost_3 : decode cLa_cost 3 = .ok (.iload_n 1, 1) := by decide +kernel
theorem dLa_cost_4 : decode cLa_cost 4 = .ok (.invokevirtual 62, 3) := by decide +kernel
theorem dLa_cost_7 : decode cLa_cost 7 = .ok (.dastore, 1) := by decide +kernel
theorem dLa_cost_8 : decode cLa_cost 8 = .ok (.goto 9, 3) := by decide +kernel
theorem dLa_cost_11 : decode cLa_cost 11 = .ok (.astore_n 3, 1) := by decide +kernel
theorem dLa_cost_12 : decode cLa_cost 12 = .ok (.iconst 1, 1) := by decide +kernel
theorem dLa_cost_13 : decode cLa_cost 13 = .ok (.ireturn, 1) := by decide +kernel
theorem dLa_cost_14 : decode cLa_cost 14 = .ok (.astore_n 3, 1) := by decide +kernel
theorem dLa_cost_15 : decode cLa_cost 15 = .ok (.iconst 2, 1) := by decide +kernel
theorem dLa_cost_16 : decode cLa_cost 16 = .ok (.ireturn, 1) := by decide +kernel
theorem dLa_cost_17 : decode cLa_cost 17 = .ok (.iconst 0, 1) := by decide +kernel
theorem dLa_cost_18 : decode cLa_cost 18 = .ok (.ireturn, 1) := by decide +kernel
theorem dLa_count_0 : decode cLa_count 0 = .ok (.aload_n 2, 1) := by decide +kernel
theorem dLa_count_1 : decode cLa_count 1 = .ok (.iconst 0, 1) := by decide +kernel
theorem dLa_count_2 : decode cLa_count 2 = .ok (.aload_n 0, 1) := by decide +kernel
theorem dLa_count_3 : decode cLa_count 3 = .ok (.iload_n 1, 1) := by decide +kernel
theorem dLa_count_4 : decode cLa_count 4 = .ok (.invokevirtual 65, 3) := by decide +kernel
theorem dLa_count_7 : decode cLa_count 7 = .ok (.i2l, 1) := by decide +kernel
theorem dLa_count_8 : decode cLa_count 8 = .ok (.lastore, 1) := by decide +kernel
theorem dLa_count_9 : decode cLa_count 9 = .ok (.goto 6, 3) := by decide +kernel
theorem dLa_count_12 : decode cLa_count 12 = .ok (.astore_n 3, 1) := by decide +kernel
theorem dLa_count_13 : decode cLa_count 13 = .ok (.iconst 1, 1) := by decide +kernel
theorem dLa_count_14 : decode cLa_count 14 = .ok (.ireturn, 1) := by decide +kernel
theorem dLa_count_15 : decode cLa_count 15 = .ok (.iconst 0, 1) := by decide +kernel
theorem dLa_count_16 : decode cLa_count 16 = .ok (.ireturn, 1) := by decide +kernel
