theorem eX4_giveBack_0 : eb_at mX4_giveBack 0 1 (.aload_n 0) 1 := ⟨by decide +kernel, rfl⟩
theorem eX4_giveBack_1 : eb_at mX4_giveBack 1 2 (.aload_n 0) 1 := ⟨by decide +kernel, rfl⟩
theorem eX4_giveBack_2 : eb_gf mX4_giveBack 2 5 4 1 := ⟨17, (RX4, TX4, 3), by decide +kernel, rfl, rfl, by decide, wd_148⟩
theorem eX4_giveBack_5 : eb_at mX4_giveBack 5 7 (.bipush 16) 2 := ⟨by decide +kernel, rfl⟩
theorem eX4_giveBack_7 : eb_at mX4_giveBack 7 8 (.iadd) 1 := ⟨by decide +kernel, rfl⟩
theorem eX4_giveBack_8 : eb_at mX4_giveBack 8 9 (.iload_n 1) 1 := ⟨by decide +kernel, rfl⟩
theorem eX4_giveBack_9 : eb_at mX4_giveBack 9 10 (.isub) 1 := ⟨by decide +kernel, rfl⟩
theorem eX4_giveBack_10 : eb_at mX4_giveBack 10 12 (.bipush 16) 2 := ⟨by decide +kernel, rfl⟩
theorem eX4_giveBack_12 : eb_at mX4_giveBack 12 13 (.irem) 1 := ⟨by decide +kernel, rfl⟩
theorem eX4_giveBack_13 : eb_pf mX4_giveBack 13 16 4 1 false .int := ⟨17, (RX4, TX4, 3), by decide +kernel, rfl, rfl, by decide, wd_148, rfl, by decide +kernel, fun h => absurd h (by decide)⟩
theorem eX4_giveBack_16 : eb_at mX4_giveBack 16 17 (.aload_n 0) 1 := ⟨by decide +kernel, rfl⟩
theorem eX4_giveBack_17 : eb_at mX4_giveBack 17 18 (.dup) 1 := ⟨by decide +kernel, rfl⟩
theorem eX4_giveBack_18 : eb_gf mX4_giveBack 18 21 4 2 := ⟨21, (RX4, TX4, 3), by decide +kernel, rfl, rfl, by decide, wd_149⟩
theorem eX4_giveBack_21 : eb_at mX4_giveBack 21 22 (.iload_n 1) 1 := ⟨by decide +kernel, rfl⟩
theorem eX4_giveBack_22 : eb_at mX4_giveBack 22 23 (.isub) 1 := ⟨by decide +kernel, rfl⟩
theorem eX4_giveBack_23 : eb_pf mX4_giveBack 23 26 4 2 false .int := ⟨21, (RX4, TX4, 3), by decide +kernel, rfl, rfl, by decide, wd_149, rfl, by decide +kernel, fun h => absurd h (by decide)⟩
theorem eX4_giveBack_26 : eb_at mX4_giveBack 26 27 (.aload_n 2) 1 := ⟨by decide +kernel, rfl⟩
theorem eX4_giveBack_27 : eb_at mX4_giveBack 27 28 (.aload_n 0) 1 := ⟨by decide +kernel, rfl⟩
theorem eX4_giveBack_28 : eb_gf mX4_giveBack 28 31 4 0 := ⟨11, (RX4, TX4, 3), by decide +kernel, rfl, rfl, by decide, wd_147⟩
theorem eX4_giveBack_31 : eb_at mX4_giveBack 31 32 (.aload_n 0) 1 := ⟨by decide +kernel, rfl⟩
theorem eX4_giveBack_32 : eb_gf mX4_giveBack 32 35 4 1 := ⟨17, (RX4, TX4, 3), by decide +kernel, rfl, rfl, by decide, wd_148⟩
theorem eX4_giveBack_35 : eb_at mX4_giveBack 35 36 (.aaload) 1 := ⟨by decide +kernel, rfl⟩
theorem eX4_giveBack_36 : eb_cv mX4_giveBack 36 39 mX7_become 1 := ⟨25, (RX7, TX7, 6), by decide +kernel, rfl, wd_405, wd_406, wd_407, by decide, rfl, rfl, okX7_become⟩
theorem eX4_giveBack_39 : eb_at mX4_giveBack 39 40 (.return_) 1 := ⟨by decide +kernel, rfl⟩
theorem eX4_init_0 : eb_at mX4_init 0 1 (.aload_n 0) 1 := ⟨by decide +kernel, rfl⟩
theorem eX4_init_1 : eb_at mX4_init 1 4 (.invokespecial 3) 3 := ⟨by decide +kernel, rfl⟩
theorem eX4_init_4 : eb_at mX4_init 4 5 (.aload_n 0) 1 := ⟨by decide +kernel, rfl⟩
theorem eX4_init_5 : eb_at mX4_init 5 7 (.bipush 16) 2 := ⟨by decide +kernel, rfl⟩
theorem eX4_init_7 : eb_at mX4_init 7 10 (.anewarray 9) 3 := ⟨by decide +kernel, rfl⟩
theorem eX4_init_10 : eb_pf mX4_init 10 13 4 0 true (.array (.object "EvenBreaks$Text")) := ⟨11, (RX4, TX4, 3), by decide +kernel, rfl, rfl, by decide, wd_147, rfl, by decide +kernel, fun _ => ⟨rfl, rfl⟩⟩
theorem eX4_init_13 : eb_at mX4_init 13 14 (.aload_n 0) 1 := ⟨by decide +kernel, rfl⟩
theorem eX4_init_14 : eb_at mX4_init 14 15 (.iconst 0) 1 := ⟨by decide +kernel, rfl⟩
theorem eX4_init_15 : eb_pf mX4_init 15 18 4 1 false .int := ⟨17, (RX4, TX4, 3), by decide +kernel, rfl, rfl, by decide, wd_148, rfl, by decide +kernel, fun h => absurd h (by decide)⟩
theorem eX4_init_18 : eb_at mX4_init 18 19 (.aload_n 0) 1 := ⟨by decide +kernel, rfl⟩
theorem eX4_init_19 : eb_at mX4_init 19 20 (.iconst 0) 1 := ⟨by decide +kernel, rfl⟩
theorem eX4_init_20 : eb_pf mX4_init 20 23 4 2 false .int := ⟨21, (RX4, TX4, 3), by decide +kernel, rfl, rfl, by decide, wd_149, rfl, by decide +kernel, fun h => absurd h (by decide)⟩
theorem eX4_init_23 : eb_at mX4_init 23 24 (.iconst 0) 1 := ⟨by decide +kernel, rfl⟩
theorem eX4_init_24 : eb_at mX4_init 24 25 (.istore_n 1) 1 := ⟨by decide +kernel, rfl⟩
theorem eX4_init_25 : eb_at mX4_init 25 26 (.iload_n 1) 1 := ⟨by decide +kernel, rfl⟩
theorem eX4_init_26 : eb_at mX4_init 26 28 (.bipush 16) 2 := ⟨by decide +kernel, rfl⟩
theorem eX4_init_28 : eb_at mX4_init 28 31 (.if_icmp .ge 22) 3 := ⟨by decide +kernel, rfl⟩
theorem eX4_init_31 : eb_at mX4_init 31 32 (.aload_n 0) 1 := ⟨by decide +kernel, rfl⟩
theorem eX4_init_32 : eb_gf mX4_init 32 35 4 0 := ⟨11, (RX4, TX4, 3), by decide +kernel, rfl, rfl, by decide, wd_147⟩
theorem eX4_init_35 : eb_at mX4_init 35 36 (.iload_n 1) 1 := ⟨by decide +kernel, rfl⟩
theorem eX4_init_36 : eb_nw_at mX4_init 36 39 6 [.null, .int (eb_I 0), .int (eb_I 0), .int (eb_I 0), .int (eb_I 0), .int (eb_I 0)] 6 := ⟨9, (RX7, TX7, 6), by decide +kernel, rfl, rfl, rfl, wd_144, wd_74, wd_53, by decide +kernel⟩
theorem eX4_init_39 : eb_at mX4_init 39 40 (.dup) 1 := ⟨by decide +kernel, rfl⟩
theorem eX4_init_40 : eb_cc mX4_init 40 43 mX7_init 0 := ⟨24, by decide +kernel, rfl, Or.inr ⟨"EvenBreaks", List.mem_filter.mpr ⟨List.mem_of_getElem? (i := 146) (by decide +kernel), rfl⟩⟩, rfl, wd_76, by decide, rfl, okX7_init⟩
theorem eX4_init_43 : eb_at mX4_init 43 44 (.aastore) 1 := ⟨by decide +kernel, rfl⟩
theorem eX4_init_44 : eb_at mX4_init 44 47 (.iinc 1 1) 3 := ⟨by decide +kernel, rfl⟩
theorem eX4_init_47 : eb_at mX4_init 47 50 (.goto (-22)) 3 := ⟨by decide +kernel, rfl⟩
theorem eX4_init_50 : eb_at mX4_init 50 51 (.return_) 1 := ⟨by decide +kernel, rfl⟩
theorem eX4_remember_0 : eb_at mX4_remember 0 1 (.aload_n 0) 1 := ⟨by decide +kernel, rfl⟩
theorem eX4_remember_1 : eb_gf mX4_remember 1 4 4 0 := ⟨11, (RX4, TX4, 3), by decide +kernel, rfl, rfl, by decide, wd_147⟩
theorem eX4_remember_4 : eb_at mX4_remember 4 5 (.aload_n 0) 1 := ⟨by decide +kernel, rfl⟩
theorem eX4_remember_5 : eb_gf mX4_remember 5 8 4 1 := ⟨17, (RX4, TX4, 3), by decide +kernel, rfl, rfl, by decide, wd_148⟩
theorem eX4_remember_8 : eb_at mX4_remember 8 9 (.aaload) 1 := ⟨by decide +kernel, rfl⟩
theorem eX4_remember_9 : eb_at mX4_remember 9 10 (.aload_n 1) 1 := ⟨by decide +kernel, rfl⟩
theorem eX4_remember_10 : eb_cv mX4_remember 10 13 mX7_become 1 := ⟨25, (RX7, TX7, 6), by decide +kernel, rfl, wd_405, wd_406, wd_407, by decide, rfl, rfl, okX7_become⟩
theorem eX4_remember_13 : eb_at mX4_remember 13 14 (.aload_n 0) 1 := ⟨by decide +kernel, rfl⟩
theorem eX4_remember_14 : eb_at mX4_remember 14 15 (.aload_n 0) 1 := ⟨by decide +kernel, rfl⟩
theorem eX4_remember_15 : eb_gf mX4_remember 15 18 4 1 := ⟨17, (RX4, TX4, 3), by decide +kernel, rfl, rfl, by decide, wd_148⟩
theorem eX4_remember_18 : eb_at mX4_remember 18 19 (.iconst 1) 1 := ⟨by decide +kernel, rfl⟩
theorem eX4_remember_19 : eb_at mX4_remember 19 20 (.iadd) 1 := ⟨by decide +kernel, rfl⟩
theorem eX4_remember_20 : eb_at mX4_remember 20 22 (.bipush 16) 2 := ⟨by decide +kernel, rfl⟩
theorem eX4_remember_22 : eb_at mX4_remember 22 23 (.irem) 1 := ⟨by decide +kernel, rfl⟩
theorem eX4_remember_23 : eb_pf mX4_remember 23 26 4 1 false .int := ⟨17, (RX4, TX4, 3), by decide +kernel, rfl, rfl, by decide, wd_148, rfl, by decide +kernel, fun h => absurd h (by decide)⟩
theorem eX4_remember_26 : eb_at mX4_remember 26 27 (.aload_n 0) 1 := ⟨by decide +kernel, rfl⟩
theorem eX4_remember_27 : eb_at mX4_remember 27 28 (.aload_n 0) 1 := ⟨by decide +kernel, rfl⟩
theorem eX4_remember_28 : eb_gf mX4_remember 28 31 4 2 := ⟨21, (RX4, TX4, 3), by decide +kernel, rfl, rfl, by decide, wd_149⟩
theorem eX4_remember_31 : eb_at mX4_remember 31 32 (.iconst 1) 1 := ⟨by decide +kernel, rfl⟩
theorem eX4_remember_32 : eb_at mX4_remember 32 33 (.iadd) 1 := ⟨by decide +kernel, rfl⟩
theorem eX4_remember_33 : eb_at mX4_remember 33 35 (.bipush 16) 2 := ⟨by decide +kernel, rfl⟩
theorem eX4_remember_35 : eb_cs mX4_remember 35 38 mJ_min 2 := ⟨29, by decide +kernel, rfl, wd_416, wd_417, by decide, okJ_min⟩
theorem eX4_remember_38 : eb_pf mX4_remember 38 41 4 2 false .int := ⟨21, (RX4, TX4, 3), by decide +kernel, rfl, rfl, by decide, wd_149, rfl, by decide +kernel, fun h => absurd h (by decide)⟩
theorem eX4_remember_41 : eb_at mX4_remember 41 42 (.return_) 1 := ⟨by decide +kernel, rfl⟩
