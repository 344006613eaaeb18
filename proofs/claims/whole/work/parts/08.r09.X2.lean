theorem eX2_init_0 : eb_at mX2_init 0 1 (.aload_n 0) 1 := ⟨by decide +kernel, rfl⟩
theorem eX2_init_1 : eb_at mX2_init 1 4 (.invokespecial 1) 3 := ⟨by decide +kernel, rfl⟩
theorem eX2_init_4 : eb_at mX2_init 4 5 (.aload_n 0) 1 := ⟨by decide +kernel, rfl⟩
theorem eX2_init_5 : eb_nw_at mX2_init 5 8 6 [.null, .int (eb_I 0), .int (eb_I 0), .int (eb_I 0), .int (eb_I 0), .int (eb_I 0)] 6 := ⟨7, (RX7, TX7, 6), by decide +kernel, rfl, rfl, rfl, wd_276, wd_74, wd_53, by decide +kernel⟩
theorem eX2_init_8 : eb_at mX2_init 8 9 (.dup) 1 := ⟨by decide +kernel, rfl⟩
theorem eX2_init_9 : eb_cc mX2_init 9 12 mX7_init 0 := ⟨9, by decide +kernel, rfl, Or.inr ⟨"EvenBreaks", List.mem_filter.mpr ⟨List.mem_of_getElem? (i := 277) (by decide +kernel), rfl⟩⟩, rfl, wd_76, by decide, rfl, okX7_init⟩
theorem eX2_init_12 : eb_pf mX2_init 12 15 2 0 true (.object "EvenBreaks$Text") := ⟨10, (RX2, TX2, 3), by decide +kernel, rfl, rfl, by decide, wd_278, rfl, by decide +kernel, fun _ => ⟨rfl, rfl⟩⟩
theorem eX2_init_15 : eb_at mX2_init 15 16 (.aload_n 0) 1 := ⟨by decide +kernel, rfl⟩
theorem eX2_init_16 : eb_at mX2_init 16 17 (.iconst 0) 1 := ⟨by decide +kernel, rfl⟩
theorem eX2_init_17 : eb_pf mX2_init 17 20 2 1 false .int := ⟨16, (RX2, TX2, 3), by decide +kernel, rfl, rfl, by decide, wd_280, rfl, by decide +kernel, fun h => absurd h (by decide)⟩
theorem eX2_init_20 : eb_at mX2_init 20 21 (.aload_n 0) 1 := ⟨by decide +kernel, rfl⟩
theorem eX2_init_21 : eb_at mX2_init 21 22 (.iconst 0) 1 := ⟨by decide +kernel, rfl⟩
theorem eX2_init_22 : eb_pf mX2_init 22 25 2 2 false .boolean := ⟨20, (RX2, TX2, 3), by decide +kernel, rfl, rfl, by decide, wd_282, rfl, by decide +kernel, fun h => absurd h (by decide)⟩
theorem eX2_init_25 : eb_at mX2_init 25 26 (.return_) 1 := ⟨by decide +kernel, rfl⟩
