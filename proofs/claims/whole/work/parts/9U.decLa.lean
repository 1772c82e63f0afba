theorem dL_paper_0 : decode cL_paper 0 = .ok (.aload 6, 2) := by decide +kernel
theorem dL_paper_2 : decode cL_paper 2 = .ok (.iconst 0, 1) := by decide +kernel
theorem dL_paper_3 : decode cL_paper 3 = .ok (.aload_n 0, 1) := by decide +kernel
theorem dL_paper_4 : decode cL_paper 4 = .ok (.iload_n 1, 1) := by decide +kernel
theorem dL_paper_5 : decode cL_paper 5 = .ok (.iload_n 2, 1) := by decide +kernel
theorem dL_paper_6 : decode cL_paper 6 = .ok (.iload_n 3, 1) := by decide +kernel
theorem dL_paper_7 : decode cL_paper 7 = .ok (.iload 4, 2) := by decide +kernel
theorem dL_paper_9 : decode cL_paper 9 = .ok (.iload 5, 2) := by decide +kernel
theorem dL_paper_11 : decode cL_paper 11 = .ok (.invokevirtual 7, 3) := by decide +kernel
theorem dL_paper_14 : decode cL_paper 14 = .ok (.i2l, 1) := by decide +kernel
theorem dL_paper_15 : decode cL_paper 15 = .ok (.lastore, 1) := by decide +kernel
theorem dL_paper_16 : decode cL_paper 16 = .ok (.goto 11, 3) := by decide +kernel
theorem dL_paper_19 : decode cL_paper 19 = .ok (.astore 7, 2) := by decide +kernel
theorem dL_paper_21 : decode cL_paper 21 = .ok (.iconst 1, 1) := by decide +kernel
theorem dL_paper_22 : decode cL_paper 22 = .ok (.ireturn, 1) := by decide +kernel
theorem dL_paper_23 : decode cL_paper 23 = .ok (.astore 7, 2) := by decide +kernel
theorem dL_paper_25 : decode cL_paper 25 = .ok (.iconst 2, 1) := by decide +kernel
theorem dL_paper_26 : decode cL_paper 26 = .ok (.ireturn, 1) := by decide +kernel
theorem dL_paper_27 : decode cL_paper 27 = .ok (.iconst 0, 1) := by decide +kernel
theorem dL_paper_28 : decode cL_paper 28 = .ok (.ireturn, 1) := by decide +kernel
theorem dL_set_0 : decode cL_set 0 = .ok (.aload 4, 2) := by decide +kernel
theorem dL_set_2 : decode cL_set 2 = .ok (.iconst 0, 1) := by decide +kernel
theorem dL_set_3 : decode cL_set 3 = .ok (.aload_n 0, 1) := by decide +kernel
theorem dL_set_4 : decode cL_set 4 = .ok (.iload_n 1, 1) := by decide +kernel
theorem dL_set_5 : decode cL_set 5 = .ok (.iload_n 2, 1) := by decide +kernel
theorem dL_set_6 : decode cL_set 6 = .ok (.iload_n 3, 1) := by decide +kernel
theorem dL_set_7 : decode cL_set 7 = .ok (.invokevirtual 17, 3) := by decide +kernel
theorem dL_set_10 : decode cL_set 10 = .ok (.i2l, 1) := by decide +kernel
theorem dL_set_11 : decode cL_set 11 = .ok (.lastore, 1) := by decide +kernel
theorem dL_set_12 : decode cL_set 12 = .ok (.goto 11, 3) := by decide +kernel
theorem dL_set_15 : decode cL_set 15 = .ok (.astore 5, 2) := by decide +kernel
theorem dL_set_17 : decode cL_set 17 = .ok (.iconst 1, 1) := by decide +kernel
theorem dL_set_18 : decode cL_set 18 = .ok (.ireturn, 1) := by decide +kernel
theorem dL_set_19 : decode cL_set 19 = .ok (.astore 5, 2) := by decide +kernel
theorem dL_set_21 : decode cL_set 21 = .ok (.iconst 2, 1) := by decide +kernel
theorem dL_set_22 : decode cL_set 22 = .ok (.ireturn, 1) := by decide +kernel
theorem dL_set_23 : decode cL_set 23 = .ok (.iconst 0, 1) := by decide +kernel
theorem dL_set_24 : decode cL_set 24 = .ok (.ireturn, 1) := by decide +kernel
theorem dL_told_0 : decode cL_told 0 = .ok (.aload_n 3, 1) := by decide +kernel
theorem dL_told_1 : decode cL_told 1 = .ok (.iconst 0, 1) := by decide +kernel
theorem dL_told_2 : decode cL_told 2 = .ok (.aload_n 0, 1) := by decide +kernel
theorem dL_told_3 : decode cL_told 3 = .ok (.iload_n 1, 1) := by decide +kernel
theorem dL_told_4 : decode cL_told 4 = .ok (.iload_n 2, 1) := by decide +kernel
theorem dL_told_5 : decode cL_told 5 = .ok (.invokevirtual 23, 3) := by decide +kernel
theorem dL_told_8 : decode cL_told 8 = .ok (.i2l, 1) := by decide +kernel
theorem dL_told_9 : decode cL_told 9 = .ok (.lastore, 1) := by decide +kernel
theorem dL_told_10 : decode cL_told 10 = .ok (.goto 11, 3) := by decide +kernel
theorem dL_told_13 : decode cL_told 13 = .ok (.astore 4, 2) := by decide +kernel
theorem dL_told_15 : decode cL_told 15 = .ok (.iconst 1, 1) := by decide +kernel
theorem dL_told_16 : decode cL_told 16 = .ok (.ireturn, 1) := by decide +kernel
theorem dL_told_17 : decode cL_told 17 = .ok (.astore 4, 2) := by decide +kernel
theorem dL_told_19 : decode cL_told 19 = .ok (.iconst 2, 1) := by decide +kernel
theorem dL_told_20 : decode cL_told 20 = .ok (.ireturn, 1) := by decide +kernel
theorem dL_told_21 : decode cL_told 21 = .ok (.iconst 0, 1) := by decide +kernel
theorem dL_told_22 : decode cL_told 22 = .ok (.ireturn, 1) := by decide +kernel
theorem dL_reel_0 : decode cL_reel 0 = .ok (.aload_n 3, 1) := by decide +kernel
theorem dL_reel_1 : decode cL_reel 1 = .ok (.iconst 0, 1) := by decide +kernel
theorem dL_reel_2 : decode cL_reel 2 = .ok (.aload_n 0, 1) := by decide +kernel
theorem dL_reel_3 : decode cL_reel 3 = .ok (.iload_n 1, 1) := by decide +kernel
theorem dL_reel_4 : decode cL_reel 4 = .ok (.iload_n 2, 1) := by decide +kernel
theorem dL_reel_5 : decode cL_reel 5 = .ok (.invokevirtual 27, 3) := by decide +kernel
theorem dL_reel_8 : decode cL_reel 8 = .ok (.i2l, 1) := by decide +kernel
theorem dL_reel_9 : decode cL_reel 9 = .ok (.lastore, 1) := by decide +kernel
theorem dL_reel_10 : decode cL_reel 10 = .ok (.goto 7, 3) := by decide +kernel
theorem dL_reel_13 : decode cL_reel 13 = .ok (.astore 4, 2) := by decide +kernel
theorem dL_reel_15 : decode cL_reel 15 = .ok (.iconst 1, 1) := by decide +kernel
theorem dL_reel_16 : decode cL_reel 16 = .ok (.ireturn, 1) := by decide +kernel
theorem dL_reel_17 : decode cL_reel 17 = .ok (.iconst 0, 1) := by decide +kernel
theorem dL_reel_18 : decode cL_reel 18 = .ok (.ireturn, 1) := by decide +kernel
theorem dL_where_0 : decode cL_where 0 = .ok (.aload_n 2, 1) := by decide +kernel
theorem dL_where_1 : decode cL_where 1 = .ok (.iconst 0, 1) := by decide +kernel
theorem dL_where_2 : decode cL_where 2 = .ok (.aload_n 0, 1) := by decide +kernel
theorem dL_where_3 : decode cL_where 3 = .ok (.iload_n 1, 1) := by decide +kernel
theorem dL_where_4 : decode cL_where 4 = .ok (.invokevirtual 30, 3) := by decide +kernel
theorem dL_where_7 : decode cL_where 7 = .ok (.i2l, 1) := by decide +kernel
theorem dL_where_8 : decode cL_where 8 = .ok (.lastore, 1) := by decide +kernel
theorem dL_where_9 : decode cL_where 9 = .ok (.goto 6, 3) := by decide +kernel
theorem dL_where_12 : decode cL_where 12 = .ok (.astore_n 3, 1) := by decide +kernel
theorem dL_where_13 : decode cL_where 13 = .ok (.iconst 1, 1) := by decide +kernel
theorem dL_where_14 : decode cL_where 14 = .ok (.ireturn, 1) := by decide +kernel
theorem dL_where_15 : decode cL_where 15 = .ok (.iconst 0, 1) := by decide +kernel
theorem dL_where_16 : decode cL_where 16 = .ok (.ireturn, 1) := by decide +kernel
theorem dL_steal_0 : decode cL_steal 0 = .ok (.aload_n 2, 1) := by decide +kernel
theorem dL_steal_1 : decode cL_steal 1 = .ok (.iconst 0, 1) := by decide +kernel
theorem dL_steal_2 : decode cL_steal 2 = .ok (.aload_n 0, 1) := by decide +kernel
theorem dL_steal_3 : decode cL_steal 3 = .ok (.iload_n 1, 1) := by decide +kernel
theorem dL_steal_4 : decode cL_steal 4 = .ok (.invokevirtual 34, 3) := by decide +kernel
theorem dL_steal_7 : decode cL_steal 7 = .ok (.i2l, 1) := by decide +kernel
theorem dL_steal_8 : decode cL_steal 8 = .ok (.lastore, 1) := by decide +kernel
theorem dL_steal_9 : decode cL_steal 9 = .ok (.goto 6, 3) := by decide +kernel
theorem dL_steal_12 : decode cL_steal 12 = .ok (.astore_n 3, 1) := by decide +kernel
theorem dL_steal_13 : decode cL_steal 13 = .ok (.iconst 1, 1) := by decide +kernel
theorem dL_steal_14 : decode cL_steal 14 = .ok (.ireturn, 1) := by decide +kernel
theorem dL_steal_15 : decode cL_steal 15 = .ok (.iconst 0, 1) := by decide +kernel
theorem dL_steal_16 : decode cL_steal 16 = .ok (.ireturn, 1) := by decide +kernel
theorem dL_find_0 : decode cL_find 0 = .ok (.aload_n 2, 1) := by decide +kernel
theorem dL_find_1 : decode cL_find 1 = .ok (.iconst 0, 1) := by decide +kernel
theorem dL_find_2 : decode cL_find 2 = .ok (.aload_n 0, 1) := by decide +kernel
theorem dL_find_3 : decode cL_find 3 = .ok (.iload_n 1, 1) := by decide +kernel
theorem dL_find_4 : decode cL_find 4 = .ok (.invokevirtual 37, 3) := by decide +kernel
theorem dL_find_7 : decode cL_find 7 = .ok (.i2l, 1) := by decide +kernel
theorem dL_find_8 : decode cL_find 8 = .ok (.lastore, 1) := by decide +kernel
theorem dL_find_9 : decode cL_find 9 = .ok (.goto 6, 3) := by decide +kernel
theorem dL_find_12 : decode cL_find 12 = .ok (.astore_n 3, 1) := by decide +kernel
theorem dL_find_13 : decode cL_find 13 = .ok (.iconst 1, 1) := by decide +kernel
theorem dL_find_14 : decode cL_find 14 = .ok (.ireturn, 1) := by decide +kernel
theorem dL_find_15 : decode cL_find 15 = .ok (.iconst 0, 1) := by decide +kernel
theorem dL_find_16 : decode cL_find 16 = .ok (.ireturn, 1) := by decide +kernel
theorem dL_ward_0 : decode cL_ward 0 = .ok (.aload_n 2, 1) := by decide +kernel
theorem dL_ward_1 : decode cL_ward 1 = .ok (.iconst 0, 1) := by decide +kernel
theorem dL_ward_2 : decode cL_ward 2 = .ok (.aload_n 0, 1) := by decide +kernel
theorem dL_ward_3 : decode cL_ward 3 = .ok (.iload_n 1, 1) := by decide +kernel
theorem dL_ward_4 : decode cL_ward 4 = .ok (.invokevirtual 40, 3) := by decide +kernel
theorem dL_ward_7 : decode cL_ward 7 = .ok (.i2l, 1) := by decide +kernel
theorem dL_ward_8 : decode cL_ward 8 = .ok (.lastore, 1) := by decide +kernel
theorem dL_ward_9 : decode cL_ward 9 = .ok (.goto 6, 3) := by decide +kernel
theorem dL_ward_12 : decode cL_ward 12 = .ok (.astore_n 3, 1) := by decide +kernel
theorem dL_ward_13 : decode cL_ward 13 = .ok (.iconst 1, 1) := by decide +kernel
theorem dL_ward_14 : decode cL_ward 14 = .ok (.ireturn, 1) := by decide +kernel
theorem dL_ward_15 : decode cL_ward 15 = .ok (.iconst 0, 1) := by decide +kernel
theorem dL_ward_16 : decode cL_ward 16 = .ok (.ireturn, 1) := by decide +kernel
theorem dL_loyal_0 : decode cL_loyal 0 = .ok (.aload 4, 2) := by decide +kernel
theorem dL_loyal_2 : decode cL_loyal 2 = .ok (.iconst 0, 1) := by decide +kernel
theorem dL_loyal_3 : decode cL_loyal 3 = .ok (.aload_n 0, 1) := by decide +kernel
theorem dL_loyal_4 : decode cL_loyal 4 = .ok (.iload_n 1, 1) := by decide +kernel
theorem dL_loyal_5 : decode cL_loyal 5 = .ok (.iload_n 2, 1) := by decide +kernel
theorem dL_loyal_6 : decode cL_loyal 6 = .ok (.iload_n 3, 1) := by decide +kernel
theorem dL_loyal_7 : decode cL_loyal 7 = .ok (.invokevirtual 43, 3) := by decide +kernel
theorem dL_loyal_10 : decode cL_loyal 10 = .ok (.i2l, 1) := by decide +kernel
theorem dL_loyal_11 : decode cL_loyal 11 = .ok (.lastore, 1) := by decide +kernel
theorem dL_loyal_12 : decode cL_loyal 12 = .ok (.goto 11, 3) := by decide +kernel
theorem dL_loyal_15 : decode cL_loyal 15 = .ok (.astore 5, 2) := by decide +kernel
theorem dL_loyal_17 : decode cL_loyal 17 = .ok (.iconst 1, 1) := by decide +kernel
theorem dL_loyal_18 : decode cL_loyal 18 = .ok (.ireturn, 1) := by decide +kernel
theorem dL_loyal_19 : decode cL_loyal 19 = .ok (.astore 5, 2) := by decide +kernel
theorem dL_loyal_21 : decode cL_loyal 21 = .ok (.iconst 2, 1) := by decide +kernel
theorem dL_loyal_22 : decode cL_loyal 22 = .ok (.ireturn, 1) := by decide +kernel
theorem dL_loyal_23 : decode cL_loyal 23 = .ok (.iconst 0, 1) := by decide +kernel
theorem dL_loyal_24 : decode cL_loyal 24 = .ok (.ireturn, 1) := by decide +kernel
theorem dL_demand_0 : decode cL_demand 0 = .ok (.aload_n 3, 1) := by decide +kernel
theorem dL_demand_1 : decode cL_demand 1 = .ok (.iconst 0, 1) := by decide +kernel
theorem dL_demand_2 : decode cL_demand 2 = .ok (.aload_n 0, 1) := by decide +kernel
theorem dL_demand_3 : decode cL_demand 3 = .ok (.iload_n 1, 1) := by decide +kernel
theorem dL_demand_4 : decode cL_demand 4 = .ok (.iload_n 2, 1) := by decide +kernel
theorem dL_demand_5 : decode cL_demand 5 = .ok (.invokevirtual 46, 3) := by decide +kernel
theorem dL_demand_8 : decode cL_demand 8 = .ok (.i2l, 1) := by decide +kernel
theorem dL_demand_9 : decode cL_demand 9 = .ok (.lastore, 1) := by decide +kernel
theorem dL_demand_10 : decode cL_demand 10 = .ok (.goto 11, 3) := by decide +kernel
theorem dL_demand_13 : decode cL_demand 13 = .ok (.astore 4, 2) := by decide +kernel
theorem dL_demand_15 : decode cL_demand 15 = .ok (.iconst 1, 1) := by decide +kernel
theorem dL_demand_16 : decode cL_demand 16 = .ok (.ireturn, 1) := by decide +kernel
theorem dL_demand_17 : decode cL_demand 17 = .ok (.astore 4, 2) := by decide +kernel
theorem dL_demand_19 : decode cL_demand 19 = .ok (.iconst 2, 1) := by decide +kernel
theorem dL_demand_20 : decode cL_demand 20 = .ok (.ireturn, 1) := by decide +kernel
theorem dL_demand_21 : decode cL_demand 21 = .ok (.iconst 0, 1) := by decide +kernel
theorem dL_demand_22 : decode cL_demand 22 = .ok (.ireturn, 1) := by decide +kernel
theorem dL_order_0 : decode cL_order 0 = .ok (.aload_n 3, 1) := by decide +kernel
theorem dL_order_1 : decode cL_order 1 = .ok (.iconst 0, 1) := by decide +kernel
theorem dL_order_2 : decode cL_order 2 = .ok (.aload_n 0, 1) := by decide +kernel
theorem dL_order_3 : decode cL_order 3 = .ok (.iload_n 1, 1) := by decide +kernel
theorem dL_order_4 : decode cL_order 4 = .ok (.iload_n 2, 1) := by decide +kernel
theorem dL_order_5 : decode cL_order 5 = .ok (.invokevirtual 49, 3) := by decide +kernel
theorem dL_order_8 : decode cL_order 8 = .ok (.i2l, 1) := by decide +kernel
theorem dL_order_9 : decode cL_order 9 = .ok (.lastore, 1) := by decide +kernel
theorem dL_order_10 : decode cL_order 10 = .ok (.goto 7, 3) := by decide +kernel
theorem dL_order_13 : decode cL_order 13 = .ok (.astore 4, 2) := by decide +kernel
theorem dL_order_15 : decode cL_order 15 = .ok (.iconst 1, 1) := by decide +kernel
theorem dL_order_16 : decode cL_order 16 = .ok (.ireturn, 1) := by decide +kernel
theorem dL_order_17 : decode cL_order 17 = .ok (.iconst 0, 1) := by decide +kernel
theorem dL_order_18 : decode cL_order 18 = .ok (.ireturn, 1) := by decide +kernel
theorem dL_force_0 : decode cL_force 0 = .ok (.aload_n 2, 1) := by decide +kernel
theorem dL_force_1 : decode cL_force 1 = .ok (.iconst 0, 1) := by decide +kernel
theorem dL_force_2 : decode cL_force 2 = .ok (.aload_n 0, 1) := by decide +kernel
theorem dL_force_3 : decode cL_force 3 = .ok (.iload_n 1, 1) := by decide +kernel
theorem dL_force_4 : decode cL_force 4 = .ok (.invokevirtual 52, 3) := by decide +kernel
theorem dL_force_7 : decode cL_force 7 = .ok (.i2l, 1) := by decide +kernel
theorem dL_force_8 : decode cL_force 8 = .ok (.lastore, 1) := by decide +kernel
theorem dL_force_9 : decode cL_force 9 = .ok (.goto 6, 3) := by decide +kernel
theorem dL_force_12 : decode cL_force 12 = .ok (.astore_n 3, 1) := by decide +kernel
theorem dL_force_13 : decode cL_force 13 = .ok (.iconst 1, 1) := by decide +kernel
theorem dL_force_14 : decode cL_force 14 = .ok (.ireturn, 1) := by decide +kernel
theorem dL_force_15 : decode cL_force 15 = .ok (.iconst 0, 1) := by decide +kernel
theorem dL_force_16 : decode cL_force 16 = .ok (.ireturn, 1) := by decide +kernel
theorem dL_tells_0 : decode cL_tells 0 = .ok (.aload_n 3, 1) := by decide +kernel
theorem dL_tells_1 : decode cL_tells 1 = .ok (.iconst 0, 1) := by decide +kernel
theorem dL_tells_2 : decode cL_tells 2 = .ok (.aload_n 0, 1) := by decide +kernel
theorem dL_tells_3 : decode cL_tells 3 = .ok (.iload_n 1, 1) := by decide +kernel
theorem dL_tells_4 : decode cL_tells 4 = .ok (.iload_n 2, 1) := by decide +kernel
theorem dL_tells_5 : decode cL_tells 5 = .ok (.invokevirtual 55, 3) := by decide +kernel
theorem dL_tells_8 : decode cL_tells 8 = .ok (.i2l, 1) := by decide +kernel
theorem dL_tells_9 : decode cL_tells 9 = .ok (.lastore, 1) := by decide +kernel
theorem dL_tells_10 : decode cL_tells 10 = .ok (.goto 11, 3) := by decide +kernel
theorem dL_tells_13 : decode cL_tells 13 = .ok (.astore 4, 2) := by decide +kernel
theorem dL_tells_15 : decode cL_tells 15 = .ok (.iconst 1, 1) := by decide +kernel
theorem dL_tells_16 : decode cL_tells 16 = .ok (.ireturn, 1) := by decide +kernel
theorem dL_tells_17 : decode cL_tells 17 = .ok (.astore 4, 2) := by decide +kernel
theorem dL_tells_19 : decode cL_tells 19 = .ok (.iconst 2, 1) := by decide +kernel
theorem dL_tells_20 : decode cL_tells 20 = .ok (.ireturn, 1) := by decide +kernel
theorem dL_tells_21 : decode cL_tells 21 = .ok (.iconst 0, 1) := by decide +kernel
theorem dL_tells_22 : decode cL_tells 22 = .ok (.ireturn, 1) := by decide +kernel
theorem dL_bid_0 : decode cL_bid 0 = .ok (.aload 4, 2) := by decide +kernel
theorem dL_bid_2 : decode cL_bid 2 = .ok (.iconst 0, 1) := by decide +kernel
theorem dL_bid_3 : decode cL_bid 3 = .ok (.aload_n 0, 1) := by decide +kernel
theorem dL_bid_4 : decode cL_bid 4 = .ok (.iload_n 1, 1) := by decide +kernel
theorem dL_bid_5 : decode cL_bid 5 = .ok (.iload_n 2, 1) := by decide +kernel
theorem dL_bid_6 : decode cL_bid 6 = .ok (.iload_n 3, 1) := by decide +kernel
theorem dL_bid_7 : decode cL_bid 7 = .ok (.invokevirtual 58, 3) := by decide +kernel
theorem dL_bid_10 : decode cL_bid 10 = .ok (.i2l, 1) := by decide +kernel
theorem dL_bid_11 : decode cL_bid 11 = .ok (.lastore, 1) := by decide +kernel
theorem dL_bid_12 : decode cL_bid 12 = .ok (.goto 11, 3) := by decide +kernel
theorem dL_bid_15 : decode cL_bid 15 = .ok (.astore 5, 2) := by decide +kernel
theorem dL_bid_17 : decode cL_bid 17 = .ok (.iconst 1, 1) := by decide +kernel
theorem dL_bid_18 : decode cL_bid 18 = .ok (.ireturn, 1) := by decide +kernel
theorem dL_bid_19 : decode cL_bid 19 = .ok (.astore 5, 2) := by decide +kernel
theorem dL_bid_21 : decode cL_bid 21 = .ok (.iconst 2, 1) := by decide +kernel
theorem dL_bid_22 : decode cL_bid 22 = .ok (.ireturn, 1) := by decide +kernel
theorem dL_bid_23 : decode cL_bid 23 = .ok (.iconst 0, 1) := by decide +kernel
theorem dL_bid_24 : decode cL_bid 24 = .ok (.ireturn, 1) := by decide +kernel
theorem dL_parted_0 : decode cL_parted 0 = .ok (.aload_n 3, 1) := by decide +kernel
theorem dL_parted_1 : decode cL_parted 1 = .ok (.iconst 0, 1) := by decide +kernel
theorem dL_parted_2 : decode cL_parted 2 = .ok (.aload_n 0, 1) := by decide +kernel
theorem dL_parted_3 : decode cL_parted 3 = .ok (.iload_n 1, 1) := by decide +kernel
theorem dL_parted_4 : decode cL_parted 4 = .ok (.iload_n 2, 1) := by decide +kernel
theorem dL_parted_5 : decode cL_parted 5 = .ok (.invokevirtual 61, 3) := by decide +kernel
theorem dL_parted_8 : decode cL_parted 8 = .ok (.i2l, 1) := by decide +kernel
theorem dL_parted_9 : decode cL_parted 9 = .ok (.lastore, 1) := by decide +kernel
theorem dL_parted_10 : decode cL_parted 10 = .ok (.goto 11, 3) := by decide +kernel
theorem dL_parted_13 : decode cL_parted 13 = .ok (.astore 4, 2) := by decide +kernel
theorem dL_parted_15 : decode cL_parted 15 = .ok (.iconst 1, 1) := by decide +kernel
theorem dL_parted_16 : decode cL_parted 16 = .ok (.ireturn, 1) := by decide +kernel
theorem dL_parted_17 : decode cL_parted 17 = .ok (.astore 4, 2) := by decide +kernel
theorem dL_parted_19 : decode cL_parted 19 = .ok (.iconst 2, 1) := by decide +kernel
theorem dL_parted_20 : decode cL_parted 20 = .ok (.ireturn, 1) := by decide +kernel
theorem dL_parted_21 : decode cL_parted 21 = .ok (.iconst 0, 1) := by decide +kernel
theorem dL_parted_22 : decode cL_parted 22 = .ok (.ireturn, 1) := by decide +kernel
theorem dL_months_0 : decode cL_months 0 = .ok (.aload_n 2, 1) := by decide +kernel
theorem dL_months_1 : decode cL_months 1 = .ok (.iconst 0, 1) := by decide +kernel
theorem dL_months_2 : decode cL_months 2 = .ok (.aload_n 0, 1) := by decide +kernel
theorem dL_months_3 : decode cL_months 3 = .ok (.iload_n 1, 1) := by decide +kernel
theorem dL_months_4 : decode cL_months 4 = .ok (.invokevirtual 64, 3) := by decide +kernel
theorem dL_months_7 : decode cL_months 7 = .ok (.i2l, 1) := by decide +kernel
theorem dL_months_8 : decode cL_months 8 = .ok (.lastore, 1) := by decide +kernel
theorem dL_months_9 : decode cL_months 9 = .ok (.goto 9, 3) := by decide +kernel
theorem dL_months_12 : decode cL_months 12 = .ok (.astore_n 3, 1) := by decide +kernel
theorem dL_months_13 : decode cL_months 13 = .ok (.iconst 1, 1) := by decide +kernel
theorem dL_months_14 : decode cL_months 14 = .ok (.ireturn, 1) := by decide +kernel
theorem dL_months_15 : decode cL_months 15 = .ok (.astore_n 3, 1) := by decide +kernel
theorem dL_months_16 : decode cL_months 16 = .ok (.iconst 2, 1) := by decide +kernel
theorem dL_months_17 : decode cL_months 17 = .ok (.ireturn, 1) := by decide +kernel
theorem dL_months_18 : decode cL_months 18 = .ok (.iconst 0, 1) := by decide +kernel
theorem dL_months_19 : decode cL_months 19 = .ok (.ireturn, 1) := by decide +kernel
theorem dL_swap_0 : decode cL_swap 0 = .ok (.aload 4, 2) := by decide +kernel
theorem dL_swap_2 : decode cL_swap 2 = .ok (.iconst 0, 1) := by decide +kernel
theorem dL_swap_3 : decode cL_swap 3 = .ok (.aload_n 0, 1) := by decide +kernel
theorem dL_swap_4 : decode cL_swap 4 = .ok (.iload_n 1, 1) := by decide +kernel
theorem dL_swap_5 : decode cL_swap 5 = .ok (.iload_n 2, 1) := by decide +kernel
theorem dL_swap_6 : decode cL_swap 6 = .ok (.iload_n 3, 1) := by decide +kernel
theorem dL_swap_7 : decode cL_swap 7 = .ok (.invokevirtual 67, 3) := by decide +kernel
theorem dL_swap_10 : decode cL_swap 10 = .ok (.i2l, 1) := by decide +kernel
theorem dL_swap_11 : decode cL_swap 11 = .ok (.lastore, 1) := by decide +kernel
theorem dL_swap_12 : decode cL_swap 12 = .ok (.goto 11, 3) := by decide +kernel
theorem dL_swap_15 : decode cL_swap 15 = .ok (.astore 5, 2) := by decide +kernel
theorem dL_swap_17 : decode cL_swap 17 = .ok (.iconst 1, 1) := by decide +kernel
theorem dL_swap_18 : decode cL_swap 18 = .ok (.ireturn, 1) := by decide +kernel
theorem dL_swap_19 : decode cL_swap 19 = .ok (.astore 5, 2) := by decide +kernel
theorem dL_swap_21 : decode cL_swap 21 = .ok (.iconst 2, 1) := by decide +kernel
theorem dL_swap_22 : decode cL_swap 22 = .ok (.ireturn, 1) := by decide +kernel
theorem dL_swap_23 : decode cL_swap 23 = .ok (.iconst 0, 1) := by decide +kernel
theorem dL_swap_24 : decode cL_swap 24 = .ok (.ireturn, 1) := by decide +kernel
theorem dL_netted_0 : decode cL_netted 0 = .ok (.aload_n 3, 1) := by decide +kernel
theorem dL_netted_1 : decode cL_netted 1 = .ok (.iconst 0, 1) := by decide +kernel
theorem dL_netted_2 : decode cL_netted 2 = .ok (.aload_n 0, 1) := by decide +kernel
theorem dL_netted_3 : decode cL_netted 3 = .ok (.iload_n 1, 1) := by decide +kernel
theorem dL_netted_4 : decode cL_netted 4 = .ok (.iload_n 2, 1) := by decide +kernel
theorem dL_netted_5 : decode cL_netted 5 = .ok (.invokevirtual 70, 3) := by decide +kernel
theorem dL_netted_8 : decode cL_netted 8 = .ok (.i2l, 1) := by decide +kernel
theorem dL_netted_9 : decode cL_netted 9 = .ok (.lastore, 1) := by decide +kernel
theorem dL_netted_10 : decode cL_netted 10 = .ok (.goto 7, 3) := by decide +kernel
theorem dL_netted_13 : decode cL_netted 13 = .ok (.astore 4, 2) := by decide +kernel
theorem dL_netted_15 : decode cL_netted 15 = .ok (.iconst 1, 1) := by decide +kernel
theorem dL_netted_16 : decode cL_netted 16 = .ok (.ireturn, 1) := by decide +kernel
theorem dL_netted_17 : decode cL_netted 17 = .ok (.iconst 0, 1) := by decide +kernel
theorem dL_netted_18 : decode cL_netted 18 = .ok (.ireturn, 1) := by decide +kernel
theorem dL_merge_0 : decode cL_merge 0 = .ok (.aload_n 3, 1) := by decide +kernel
theorem dL_merge_1 : decode cL_merge 1 = .ok (.iconst 0, 1) := by decide +kernel
theorem dL_merge_2 : decode cL_merge 2 = .ok (.aload_n 0, 1) := by decide +kernel
theorem dL_merge_3 : decode cL_merge 3 = .ok (.iload_n 1, 1) := by decide +kernel
theorem dL_merge_4 : decode cL_merge 4 = .ok (.iload_n 2, 1) := by decide +kernel
theorem dL_merge_5 : decode cL_merge 5 = .ok (.invokevirtual 73, 3) := by decide +kernel
theorem dL_merge_8 : decode cL_merge 8 = .ok (.i2l, 1) := by decide +kernel
theorem dL_merge_9 : decode cL_merge 9 = .ok (.lastore, 1) := by decide +kernel
theorem dL_merge_10 : decode cL_merge 10 = .ok (.goto 7, 3) := by decide +kernel
theorem dL_merge_13 : decode cL_merge 13 = .ok (.astore 4, 2) := by decide +kernel
theorem dL_merge_15 : decode cL_merge 15 = .ok (.iconst 1, 1) := by decide +kernel
theorem dL_merge_16 : decode cL_merge 16 = .ok (.ireturn, 1) := by decide +kernel
theorem dL_merge_17 : decode cL_merge 17 = .ok (.iconst 0, 1) := by decide +kernel
theorem dL_merge_18 : decode cL_merge 18 = .ok (.ireturn, 1) := by decide +kernel
theorem dL_gain_0 : decode cL_gain 0 = .ok (.aload_n 3, 1) := by decide +kernel
theorem dL_gain_1 : decode cL_gain 1 = .ok (.iconst 0, 1) := by decide +kernel
theorem dL_gain_2 : decode cL_gain 2 = .ok (.aload_n 0, 1) := by decide +kernel
theorem dL_gain_3 : decode cL_gain 3 = .ok (.iload_n 1, 1) := by decide +kernel
theorem dL_gain_4 : decode cL_gain 4 = .ok (.iload_n 2, 1) := by decide +kernel
theorem dL_gain_5 : decode cL_gain 5 = .ok (.invokevirtual 76, 3) := by decide +kernel
theorem dL_gain_8 : decode cL_gain 8 = .ok (.i2l, 1) := by decide +kernel
theorem dL_gain_9 : decode cL_gain 9 = .ok (.lastore, 1) := by decide +kernel
theorem dL_gain_10 : decode cL_gain 10 = .ok (.goto 7, 3) := by decide +kernel
theorem dL_gain_13 : decode cL_gain 13 = .ok (.astore 4, 2) := by decide +kernel
theorem dL_gain_15 : decode cL_gain 15 = .ok (.iconst 1, 1) := by decide +kernel
theorem dL_gain_16 : decode cL_gain 16 = .ok (.ireturn, 1) := by decide +kernel
theorem dL_gain_17 : decode cL_gain 17 = .ok (.iconst 0, 1) := by decide +kernel
theorem dL_gain_18 : decode cL_gain 18 = .ok (.ireturn, 1) := by decide +kernel
theorem dL_breach_0 : decode cL_breach 0 = .ok (.aload_n 3, 1) := by decide +kernel
theorem dL_breach_1 : decode cL_breach 1 = .ok (.iconst 0, 1) := by decide +kernel
theorem dL_breach_2 : decode cL_breach 2 = .ok (.aload_n 0, 1) := by decide +kernel
theorem dL_breach_3 : decode cL_breach 3 = .ok (.iload_n 1, 1) := by decide +kernel
theorem dL_breach_4 : decode cL_breach 4 = .ok (.iload_n 2, 1) := by decide +kernel
theorem dL_breach_5 : decode cL_breach 5 = .ok (.invokevirtual 79, 3) := by decide +kernel
theorem dL_breach_8 : decode cL_breach 8 = .ok (.i2l, 1) := by decide +kernel
theorem dL_breach_9 : decode cL_breach 9 = .ok (.lastore, 1) := by decide +kernel
theorem dL_breach_10 : decode cL_breach 10 = .ok (.goto 11, 3) := by decide +kernel
theorem dL_breach_13 : decode cL_breach 13 = .ok (.astore 4, 2) := by decide +kernel
theorem dL_breach_15 : decode cL_breach 15 = .ok (.iconst 1, 1) := by decide +kernel
theorem dL_breach_16 : decode cL_breach 16 = .ok (.ireturn, 1) := by decide +kernel
theorem dL_breach_17 : decode cL_breach 17 = .ok (.astore 4, 2) := by decide +kernel
theorem dL_breach_19 : decode cL_breach 19 = .ok (.iconst 2, 1) := by decide +kernel
theorem dL_breach_20 : decode cL_breach 20 = .ok (.ireturn, 1) := by decide +kernel
theorem dL_breach_21 : decode cL_breach 21 = .ok (.iconst 0, 1) := by decide +kernel
theorem dL_breach_22 : decode cL_breach 22 = .ok (.ireturn, 1) := by decide +kernel
theorem dL_source_0 : decode cL_source 0 = .ok (.aload 4, 2) := by decide +kernel
theorem dL_source_2 : decode cL_source 2 = .ok (.iconst 0, 1) := by decide +kernel
theorem dL_source_3 : decode cL_source 3 = .ok (.aload_n 0, 1) := by decide +kernel
theorem dL_source_4 : decode cL_source 4 = .ok (.iload_n 1, 1) := by decide +kernel
theorem dL_source_5 : decode cL_source 5 = .ok (.iload_n 2, 1) := by decide +kernel
theorem dL_source_6 : decode cL_source 6 = .ok (.iload_n 3, 1) := by decide +kernel
theorem dL_source_7 : decode cL_source 7 = .ok (.invokevirtual 82, 3) := by decide +kernel
theorem dL_source_10 : decode cL_source 10 = .ok (.i2l, 1) := by decide +kernel
theorem dL_source_11 : decode cL_source 11 = .ok (.lastore, 1) := by decide +kernel
theorem dL_source_12 : decode cL_source 12 = .ok (.goto 11, 3) := by decide +kernel
theorem dL_source_15 : decode cL_source 15 = .ok (.astore 5, 2) := by decide +kernel
theorem dL_source_17 : decode cL_source 17 = .ok (.iconst 1, 1) := by decide +kernel
theorem dL_source_18 : decode cL_source 18 = .ok (.ireturn, 1) := by decide +kernel
theorem dL_source_19 : decode cL_source 19 = .ok (.astore 5, 2) := by decide +kernel
theorem dL_source_21 : decode cL_source 21 = .ok (.iconst 2, 1) := by decide +kernel
theorem dL_source_22 : decode cL_source 22 = .ok (.ireturn, 1) := by decide +kernel
theorem dL_source_23 : decode cL_source 23 = .ok (.iconst 0, 1) := by decide +kernel
theorem dL_source_24 : decode cL_source 24 = .ok (.ireturn, 1) := by decide +kernel
theorem dL_borne_0 : decode cL_borne 0 = .ok (.aload_n 3, 1) := by decide +kernel
theorem dL_borne_1 : decode cL_borne 1 = .ok (.iconst 0, 1) := by decide +kernel
theorem dL_borne_2 : decode cL_borne 2 = .ok (.aload_n 0, 1) := by decide +kernel
theorem dL_borne_3 : decode cL_borne 3 = .ok (.iload_n 1, 1) := by decide +kernel
theorem dL_borne_4 : decode cL_borne 4 = .ok (.iload_n 2, 1) := by decide +kernel
theorem dL_borne_5 : decode cL_borne 5 = .ok (.invokevirtual 85, 3) := by decide +kernel
theorem dL_borne_8 : decode cL_borne 8 = .ok (.i2l, 1) := by decide +kernel
theorem dL_borne_9 : decode cL_borne 9 = .ok (.lastore, 1) := by decide +kernel
theorem dL_borne_10 : decode cL_borne 10 = .ok (.goto 11, 3) := by decide +kernel
theorem dL_borne_13 : decode cL_borne 13 = .ok (.astore 4, 2) := by decide +kernel
theorem dL_borne_15 : decode cL_borne 15 = .ok (.iconst 1, 1) := by decide +kernel
theorem dL_borne_16 : decode cL_borne 16 = .ok (.ireturn, 1) := by decide +kernel
theorem dL_borne_17 : decode cL_borne 17 = .ok (.astore 4, 2) := by decide +kernel
theorem dL_borne_19 : decode cL_borne 19 = .ok (.iconst 2, 1) := by decide +kernel
theorem dL_borne_20 : decode cL_borne 20 = .ok (.ireturn, 1) := by decide +kernel
theorem dL_borne_21 : decode cL_borne 21 = .ok (.iconst 0, 1) := by decide +kernel
theorem dL_borne_22 : decode cL_borne 22 = .ok (.ireturn, 1) := by decide +kernel
theorem dL_appeal_0 : decode cL_appeal 0 = .ok (.aload_n 3, 1) := by decide +kernel
theorem dL_appeal_1 : decode cL_appeal 1 = .ok (.iconst 0, 1) := by decide +kernel
theorem dL_appeal_2 : decode cL_appeal 2 = .ok (.aload_n 0, 1) := by decide +kernel
theorem dL_appeal_3 : decode cL_appeal 3 = .ok (.iload_n 1, 1) := by decide +kernel
theorem dL_appeal_4 : decode cL_appeal 4 = .ok (.iload_n 2, 1) := by decide +kernel
theorem dL_appeal_5 : decode cL_appeal 5 = .ok (.invokevirtual 88, 3) := by decide +kernel
theorem dL_appeal_8 : decode cL_appeal 8 = .ok (.i2l, 1) := by decide +kernel
theorem dL_appeal_9 : decode cL_appeal 9 = .ok (.lastore, 1) := by decide +kernel
theorem dL_appeal_10 : decode cL_appeal 10 = .ok (.goto 11, 3) := by decide +kernel
theorem dL_appeal_13 : decode cL_appeal 13 = .ok (.astore 4, 2) := by decide +kernel
theorem dL_appeal_15 : decode cL_appeal 15 = .ok (.iconst 1, 1) := by decide +kernel
theorem dL_appeal_16 : decode cL_appeal 16 = .ok (.ireturn, 1) := by decide +kernel
theorem dL_appeal_17 : decode cL_appeal 17 = .ok (.astore 4, 2) := by decide +kernel
theorem dL_appeal_19 : decode cL_appeal 19 = .ok (.iconst 2, 1) := by decide +kernel
theorem dL_appeal_20 : decode cL_appeal 20 = .ok (.ireturn, 1) := by decide +kernel
theorem dL_appeal_21 : decode cL_appeal 21 = .ok (.iconst 0, 1) := by decide +kernel
theorem dL_appeal_22 : decode cL_appeal 22 = .ok (.ireturn, 1) := by decide +kernel
theorem dL_alike_0 : decode cL_alike 0 = .ok (.aload_n 2, 1) := by decide +kernel
theorem dL_alike_1 : decode cL_alike 1 = .ok (.iconst 0, 1) := by decide +kernel
theorem dL_alike_2 : decode cL_alike 2 = .ok (.aload_n 0, 1) := by decide +kernel
theorem dL_alike_3 : decode cL_alike 3 = .ok (.iload_n 1, 1) := by decide +kernel
theorem dL_alike_4 : decode cL_alike 4 = .ok (.invokevirtual 91, 3) := by decide +kernel
theorem dL_alike_7 : decode cL_alike 7 = .ok (.i2l, 1) := by decide +kernel
theorem dL_alike_8 : decode cL_alike 8 = .ok (.lastore, 1) := by decide +kernel
theorem dL_alike_9 : decode cL_alike 9 = .ok (.goto 6, 3) := by decide +kernel
theorem dL_alike_12 : decode cL_alike 12 = .ok (.astore_n 3, 1) := by decide +kernel
theorem dL_alike_13 : decode cL_alike 13 = .ok (.iconst 1, 1) := by decide +kernel
theorem dL_alike_14 : decode cL_alike 14 = .ok (.ireturn, 1) := by decide +kernel
theorem dL_alike_15 : decode cL_alike 15 = .ok (.iconst 0, 1) := by decide +kernel
theorem dL_alike_16 : decode cL_alike 16 = .ok (.ireturn, 1) := by decide +kernel
theorem dL_apart_0 : decode cL_apart 0 = .ok (.aload_n 3, 1) := by decide +kernel
theorem dL_apart_1 : decode cL_apart 1 = .ok (.iconst 0, 1) := by decide +kernel
theorem dL_apart_2 : decode cL_apart 2 = .ok (.aload_n 0, 1) := by decide +kernel
theorem dL_apart_3 : decode cL_apart 3 = .ok (.iload_n 1, 1) := by decide +kernel
theorem dL_apart_4 : decode cL_apart 4 = .ok (.iload_n 2, 1) := by decide +kernel
theorem dL_apart_5 : decode cL_apart 5 = .ok (.invokevirtual 94, 3) := by decide +kernel
theorem dL_apart_8 : decode cL_apart 8 = .ok (.i2l, 1) := by decide +kernel
theorem dL_apart_9 : decode cL_apart 9 = .ok (.lastore, 1) := by decide +kernel
theorem dL_apart_10 : decode cL_apart 10 = .ok (.goto 7, 3) := by decide +kernel
theorem dL_apart_13 : decode cL_apart 13 = .ok (.astore 4, 2) := by decide +kernel
theorem dL_apart_15 : decode cL_apart 15 = .ok (.iconst 1, 1) := by decide +kernel
theorem dL_apart_16 : decode cL_apart 16 = .ok (.ireturn, 1) := by decide +kernel
theorem dL_apart_17 : decode cL_apart 17 = .ok (.iconst 0, 1) := by decide +kernel
theorem dL_apart_18 : decode cL_apart 18 = .ok (.ireturn, 1) := by decide +kernel
theorem dL_grant_0 : decode cL_grant 0 = .ok (.aload_n 3, 1) := by decide +kernel
theorem dL_grant_1 : decode cL_grant 1 = .ok (.iconst 0, 1) := by decide +kernel
theorem dL_grant_2 : decode cL_grant 2 = .ok (.aload_n 0, 1) := by decide +kernel
theorem dL_grant_3 : decode cL_grant 3 = .ok (.iload_n 1, 1) := by decide +kernel
theorem dL_grant_4 : decode cL_grant 4 = .ok (.iload_n 2, 1) := by decide +kernel
theorem dL_grant_5 : decode cL_grant 5 = .ok (.invokevirtual 97, 3) := by decide +kernel
theorem dL_grant_8 : decode cL_grant 8 = .ok (.i2l, 1) := by decide +kernel
theorem dL_grant_9 : decode cL_grant 9 = .ok (.lastore, 1) := by decide +kernel
theorem dL_grant_10 : decode cL_grant 10 = .ok (.goto 11, 3) := by decide +kernel
theorem dL_grant_13 : decode cL_grant 13 = .ok (.astore 4, 2) := by decide +kernel
theorem dL_grant_15 : decode cL_grant 15 = .ok (.iconst 1, 1) := by decide +kernel
theorem dL_grant_16 : decode cL_grant 16 = .ok (.ireturn, 1) := by decide +kernel
theorem dL_grant_17 : decode cL_grant 17 = .ok (.astore 4, 2) := by decide +kernel
theorem dL_grant_19 : decode cL_grant 19 = .ok (.iconst 2, 1) := by decide +kernel
theorem dL_grant_20 : decode cL_grant 20 = .ok (.ireturn, 1) := by decide +kernel
theorem dL_grant_21 : decode cL_grant 21 = .ok (.iconst 0, 1) := by decide +kernel
theorem dL_grant_22 : decode cL_grant 22 = .ok (.ireturn, 1) := by decide +kernel
theorem dL_best_0 : decode cL_best 0 = .ok (.aload_n 3, 1) := by decide +kernel
theorem dL_best_1 : decode cL_best 1 = .ok (.iconst 0, 1) := by decide +kernel
theorem dL_best_2 : decode cL_best 2 = .ok (.aload_n 0, 1) := by decide +kernel
theorem dL_best_3 : decode cL_best 3 = .ok (.iload_n 1, 1) := by decide +kernel
theorem dL_best_4 : decode cL_best 4 = .ok (.iload_n 2, 1) := by decide +kernel
theorem dL_best_5 : decode cL_best 5 = .ok (.invokevirtual 100, 3) := by decide +kernel
theorem dL_best_8 : decode cL_best 8 = .ok (.i2l, 1) := by decide +kernel
theorem dL_best_9 : decode cL_best 9 = .ok (.lastore, 1) := by decide +kernel
theorem dL_best_10 : decode cL_best 10 = .ok (.goto 11, 3) := by decide +kernel
theorem dL_best_13 : decode cL_best 13 = .ok (.astore 4, 2) := by decide +kernel
theorem dL_best_15 : decode cL_best 15 = .ok (.iconst 1, 1) := by decide +kernel
theorem dL_best_16 : decode cL_best 16 = .ok (.ireturn, 1) := by decide +kernel
theorem dL_best_17 : decode cL_best 17 = .ok (.astore 4, 2) := by decide +kernel
theorem dL_best_19 : decode cL_best 19 = .ok (.iconst 2, 1) := by decide +kernel
theorem dL_best_20 : decode cL_best 20 = .ok (.ireturn, 1) := by decide +kernel
theorem dL_best_21 : decode cL_best 21 = .ok (.iconst 0, 1) := by decide +kernel
theorem dL_best_22 : decode cL_best 22 = .ok (.ireturn, 1) := by decide +kernel
theorem dL_correct_0 : decode cL_correct 0 = .ok (.aload 4, 2) := by decide +kernel
theorem dL_correct_2 : decode cL_correct 2 = .ok (.iconst 0, 1) := by decide +kernel
theorem dL_correct_3 : decode cL_correct 3 = .ok (.aload_n 0, 1) := by decide +kernel
theorem dL_correct_4 : decode cL_correct 4 = .ok (.iload_n 1, 1) := by decide +kernel
theorem dL_correct_5 : decode cL_correct 5 = .ok (.iload_n 2, 1) := by decide +kernel
theorem dL_correct_6 : decode cL_correct 6 = .ok (.iload_n 3, 1) := by decide +kernel
theorem dL_correct_7 : decode cL_correct 7 = .ok (.invokevirtual 103, 3) := by decide +kernel
theorem dL_correct_10 : decode cL_correct 10 = .ok (.i2l, 1) := by decide +kernel
theorem dL_correct_11 : decode cL_correct 11 = .ok (.lastore, 1) := by decide +kernel
theorem dL_correct_12 : decode cL_correct 12 = .ok (.goto 11, 3) := by decide +kernel
theorem dL_correct_15 : decode cL_correct 15 = .ok (.astore 5, 2) := by decide +kernel
theorem dL_correct_17 : decode cL_correct 17 = .ok (.iconst 1, 1) := by decide +kernel
theorem dL_correct_18 : decode cL_correct 18 = .ok (.ireturn, 1) := by decide +kernel
theorem dL_correct_19 : decode cL_correct 19 = .ok (.astore 5, 2) := by decide +kernel
theorem dL_correct_21 : decode cL_correct 21 = .ok (.iconst 2, 1) := by decide +kernel
theorem dL_correct_22 : decode cL_correct 22 = .ok (.ireturn, 1) := by decide +kernel
theorem dL_correct_23 : decode cL_correct 23 = .ok (.iconst 0, 1) := by decide +kernel
theorem dL_correct_24 : decode cL_correct 24 = .ok (.ireturn, 1) := by decide +kernel
theorem dL_row_0 : decode cL_row 0 = .ok (.aload 5, 2) := by decide +kernel
theorem dL_row_2 : decode cL_row 2 = .ok (.iconst 0, 1) := by decide +kernel
theorem dL_row_3 : decode cL_row 3 = .ok (.aload_n 0, 1) := by decide +kernel
theorem dL_row_4 : decode cL_row 4 = .ok (.iload_n 1, 1) := by decide +kernel
theorem dL_row_5 : decode cL_row 5 = .ok (.iload_n 2, 1) := by decide +kernel
theorem dL_row_6 : decode cL_row 6 = .ok (.iload_n 3, 1) := by decide +kernel
theorem dL_row_7 : decode cL_row 7 = .ok (.iload 4, 2) := by decide +kernel
theorem dL_row_9 : decode cL_row 9 = .ok (.invokevirtual 106, 3) := by decide +kernel
theorem dL_row_12 : decode cL_row 12 = .ok (.i2l, 1) := by decide +kernel
theorem dL_row_13 : decode cL_row 13 = .ok (.lastore, 1) := by decide +kernel
theorem dL_row_14 : decode cL_row 14 = .ok (.goto 11, 3) := by decide +kernel
theorem dL_row_17 : decode cL_row 17 = .ok (.astore 6, 2) := by decide +kernel
theorem dL_row_19 : decode cL_row 19 = .ok (.iconst 1, 1) := by decide +kernel
theorem dL_row_20 : decode cL_row 20 = .ok (.ireturn, 1) := by decide +kernel
theorem dL_row_21 : decode cL_row 21 = .ok (.astore 6, 2) := by decide +kernel
theorem dL_row_23 : decode cL_row 23 = .ok (.iconst 2, 1) := by decide +kernel
theorem dL_row_24 : decode cL_row 24 = .ok (.ireturn, 1) := by decide +kernel
theorem dL_row_25 : decode cL_row 25 = .ok (.iconst 0, 1) := by decide +kernel
theorem dL_row_26 : decode cL_row 26 = .ok (.ireturn, 1) := by decide +kernel
