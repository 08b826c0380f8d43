/-! the constructors' links -/
theorem nL_7 : zNw RL 7 9 12 := ⟨RX9, TX9, rfl, inlX9, ⟨tyX9, tyX9_ok⟩, wsL_law_r1_l (List.mem_of_getElem? (i := 0) rfl), wsL_law_r1_l (List.mem_of_getElem? (i := 1) rfl), wsL_law_r1_l (List.mem_of_getElem? (i := 2) rfl)⟩
theorem nL_10 : zNw RL 10 10 44 := ⟨RX10, TX10, rfl, inlX10, ⟨tyX10, tyX10_ok⟩, wsL_law_r1_l (List.mem_of_getElem? (i := 3) rfl), wsL_law_r1_l (List.mem_of_getElem? (i := 4) rfl), wsL_law_r1_l (List.mem_of_getElem? (i := 5) rfl)⟩
theorem nX9_9 : zNw RX9 9 8 2 := ⟨RX8, TX8, rfl, inlX8, ⟨tyX8, tyX8_ok⟩, wsL_law_r1_l (List.mem_of_getElem? (i := 12) rfl), wsL_law_r1_l (List.mem_of_getElem? (i := 13) rfl), wsL_law_r1_l (List.mem_of_getElem? (i := 14) rfl)⟩
theorem nX9_16 : zNw RX9 16 4 2 := ⟨RX4, TX4, rfl, inlX4, ⟨tyX4, tyX4_ok⟩, wsL_law_r1_l (List.mem_of_getElem? (i := 16) rfl), wsL_law_r1_l (List.mem_of_getElem? (i := 17) rfl), wsL_law_r1_l (List.mem_of_getElem? (i := 18) rfl)⟩
theorem nX9_25 : zNw RX9 25 2 15 := ⟨RX2, TX2, rfl, inlX2, ⟨tyX2, tyX2_ok⟩, wsL_law_r1_l (List.mem_of_getElem? (i := 20) rfl), wsL_law_r1_l (List.mem_of_getElem? (i := 21) rfl), wsL_law_r1_l (List.mem_of_getElem? (i := 22) rfl)⟩
theorem nX9_35 : zNw RX9 35 3 6 := ⟨RX3, TX3, rfl, inlX3, ⟨tyX3, tyX3_ok⟩, wsL_law_r2_l (List.mem_of_getElem? (i := 1) rfl), wsL_law_r2_l (List.mem_of_getElem? (i := 2) rfl), wsL_law_r2_l (List.mem_of_getElem? (i := 3) rfl)⟩
theorem nX9_44 : zNw RX9 44 0 2 := ⟨RX0, TX0, rfl, inlX0, ⟨tyX0, tyX0_ok⟩, wsL_law_r2_l (List.mem_of_getElem? (i := 5) rfl), wsL_law_r2_l (List.mem_of_getElem? (i := 6) rfl), wsL_law_r2_l (List.mem_of_getElem? (i := 7) rfl)⟩
theorem nX9_51 : zNw RX9 51 5 10 := ⟨RX5, TX5, rfl, inlX5, ⟨tyX5, tyX5_ok⟩, wsL_law_r2_l (List.mem_of_getElem? (i := 9) rfl), wsL_law_r2_l (List.mem_of_getElem? (i := 10) rfl), wsL_law_r2_l (List.mem_of_getElem? (i := 11) rfl)⟩
theorem nX9_62 : zNw RX9 62 6 2 := ⟨RX6, TX6, rfl, inlX6, ⟨tyX6, tyX6_ok⟩, wsL_law_r2_l (List.mem_of_getElem? (i := 15) rfl), wsL_law_r2_l (List.mem_of_getElem? (i := 16) rfl), wsL_law_r2_l (List.mem_of_getElem? (i := 17) rfl)⟩
theorem nX9_74 : zNw RX9 74 1 2 := ⟨RX1, TX1, rfl, inlX1, ⟨tyX1, tyX1_ok⟩, wsL_law_r2_l (List.mem_of_getElem? (i := 20) rfl), wsL_law_r2_l (List.mem_of_getElem? (i := 21) rfl), wsL_law_r2_l (List.mem_of_getElem? (i := 22) rfl)⟩
theorem nX9_81 : zNw RX9 81 7 5 := ⟨RX7, TX7, rfl, inlX7, ⟨tyX7, tyX7_ok⟩, wsL_law_r3_l (List.mem_of_getElem? (i := 0) rfl), wsL_law_r3_l (List.mem_of_getElem? (i := 1) rfl), wsL_law_r3_l (List.mem_of_getElem? (i := 2) rfl)⟩
theorem aX2_24 : Cond.classLink RX2 24 ("[" ++ (FieldType.array .int).toString) ∈ wsL_law := wsL_law_r3_l (List.mem_of_getElem? (i := 22) rfl)
theorem aX5_15 : Cond.classLink RX5 15 ("[" ++ (FieldType.array .int).toString) ∈ wsL_law := wsL_law_r5_l (List.mem_of_getElem? (i := 3) rfl)
theorem nX5_41 : zNw RX5 41 3 6 := ⟨RX3, TX3, rfl, inlX3, ⟨tyX3, tyX3_ok⟩, wsL_law_r5_l (List.mem_of_getElem? (i := 12) rfl), wsL_law_r2_l (List.mem_of_getElem? (i := 2) rfl), wsL_law_r2_l (List.mem_of_getElem? (i := 3) rfl)⟩
theorem nX5_50 : zNw RX5 50 0 2 := ⟨RX0, TX0, rfl, inlX0, ⟨tyX0, tyX0_ok⟩, wsL_law_r5_l (List.mem_of_getElem? (i := 14) rfl), wsL_law_r2_l (List.mem_of_getElem? (i := 6) rfl), wsL_law_r2_l (List.mem_of_getElem? (i := 7) rfl)⟩
theorem aX6_21 : Cond.classLink RX6 21 ("[" ++ (FieldType.array .int).toString) ∈ wsL_law := wsL_law_r6_l (List.mem_of_getElem? (i := 3) rfl)
theorem iL_9 : zLi RL 9 mX9_init 0 := ⟨wsL_law_r1_l (List.mem_of_getElem? (i := 6) rfl), wsL_law_r1_l (List.mem_of_getElem? (i := 7) rfl), wsL_law_r1_l (List.mem_of_getElem? (i := 2) rfl), wsL_law_r1_l (List.mem_of_getElem? (i := 8) rfl), rfl, rfl, by decide +kernel, by decide +kernel, by decide +kernel, by decide +kernel⟩
theorem oX9_3 : Cond.methodLink RX9 3 objectInit ∈ wsL_law := wsL_law_r1_l (List.mem_of_getElem? (i := 9) rfl)
theorem oX8_3 : Cond.methodLink RX8 3 objectInit ∈ wsL_law := wsL_law_r3_l (List.mem_of_getElem? (i := 6) rfl)
theorem iX9_18 : zLi RX9 18 mX4_init 1 := ⟨wsL_law_r3_l (List.mem_of_getElem? (i := 9) rfl), wsL_law_r3_l (List.mem_of_getElem? (i := 10) rfl), wsL_law_r1_l (List.mem_of_getElem? (i := 18) rfl), wsL_law_r3_l (List.mem_of_getElem? (i := 11) rfl), rfl, rfl, by decide +kernel, by decide +kernel, by decide +kernel, by decide +kernel⟩
theorem oX4_3 : Cond.methodLink RX4 3 objectInit ∈ wsL_law := wsL_law_r3_l (List.mem_of_getElem? (i := 12) rfl)
theorem oX2_3 : Cond.methodLink RX2 3 objectInit ∈ wsL_law := wsL_law_r3_l (List.mem_of_getElem? (i := 17) rfl)
theorem iX9_37 : zLi RX9 37 mX3_init 1 := ⟨wsL_law_r4_l (List.mem_of_getElem? (i := 6) rfl), wsL_law_r4_l (List.mem_of_getElem? (i := 7) rfl), wsL_law_r2_l (List.mem_of_getElem? (i := 3) rfl), wsL_law_r4_l (List.mem_of_getElem? (i := 8) rfl), rfl, rfl, by decide +kernel, by decide +kernel, by decide +kernel, by decide +kernel⟩
theorem oX3_3 : Cond.methodLink RX3 3 objectInit ∈ wsL_law := wsL_law_r4_l (List.mem_of_getElem? (i := 9) rfl)
theorem iX9_46 : zLi RX9 46 mX0_init 1 := ⟨wsL_law_r4_l (List.mem_of_getElem? (i := 16) rfl), wsL_law_r4_l (List.mem_of_getElem? (i := 17) rfl), wsL_law_r2_l (List.mem_of_getElem? (i := 7) rfl), wsL_law_r4_l (List.mem_of_getElem? (i := 18) rfl), rfl, rfl, by decide +kernel, by decide +kernel, by decide +kernel, by decide +kernel⟩
theorem oX0_3 : Cond.methodLink RX0 3 objectInit ∈ wsL_law := wsL_law_r4_l (List.mem_of_getElem? (i := 19) rfl)
theorem iX9_53 : zLi RX9 53 mX5_init 1 := ⟨wsL_law_r4_l (List.mem_of_getElem? (i := 22) rfl), wsL_law_r4_l (List.mem_of_getElem? (i := 23) rfl), wsL_law_r2_l (List.mem_of_getElem? (i := 11) rfl), wsL_law_r5_l (List.mem_of_getElem? (i := 0) rfl), rfl, rfl, by decide +kernel, by decide +kernel, by decide +kernel, by decide +kernel⟩
theorem oX5_3 : Cond.methodLink RX5 3 objectInit ∈ wsL_law := wsL_law_r5_l (List.mem_of_getElem? (i := 1) rfl)
theorem iX5_43 : zLi RX5 43 mX3_init 1 := ⟨wsL_law_r5_l (List.mem_of_getElem? (i := 16) rfl), wsL_law_r4_l (List.mem_of_getElem? (i := 7) rfl), wsL_law_r2_l (List.mem_of_getElem? (i := 3) rfl), wsL_law_r4_l (List.mem_of_getElem? (i := 8) rfl), rfl, rfl, by decide +kernel, by decide +kernel, by decide +kernel, by decide +kernel⟩
theorem iX5_52 : zLi RX5 52 mX0_init 1 := ⟨wsL_law_r5_l (List.mem_of_getElem? (i := 17) rfl), wsL_law_r4_l (List.mem_of_getElem? (i := 17) rfl), wsL_law_r2_l (List.mem_of_getElem? (i := 7) rfl), wsL_law_r4_l (List.mem_of_getElem? (i := 18) rfl), rfl, rfl, by decide +kernel, by decide +kernel, by decide +kernel, by decide +kernel⟩
theorem iX9_64 : zLi RX9 64 mX6_init 1 := ⟨wsL_law_r5_l (List.mem_of_getElem? (i := 18) rfl), wsL_law_r5_l (List.mem_of_getElem? (i := 19) rfl), wsL_law_r2_l (List.mem_of_getElem? (i := 17) rfl), wsL_law_r5_l (List.mem_of_getElem? (i := 20) rfl), rfl, rfl, by decide +kernel, by decide +kernel, by decide +kernel, by decide +kernel⟩
theorem oX6_3 : Cond.methodLink RX6 3 objectInit ∈ wsL_law := wsL_law_r5_l (List.mem_of_getElem? (i := 21) rfl)
theorem oX1_3 : Cond.methodLink RX1 3 objectInit ∈ wsL_law := wsL_law_r6_l (List.mem_of_getElem? (i := 7) rfl)
theorem iX9_83 : zLi RX9 83 mX7_init 1 := ⟨wsL_law_r6_l (List.mem_of_getElem? (i := 10) rfl), wsL_law_r6_l (List.mem_of_getElem? (i := 11) rfl), wsL_law_r3_l (List.mem_of_getElem? (i := 2) rfl), wsL_law_r6_l (List.mem_of_getElem? (i := 12) rfl), rfl, rfl, by decide +kernel, by decide +kernel, by decide +kernel, by decide +kernel⟩
theorem oX7_3 : Cond.methodLink RX7 3 objectInit ∈ wsL_law := wsL_law_r6_l (List.mem_of_getElem? (i := 13) rfl)
theorem iL_12 : zLi RL 12 mX10_init 0 := ⟨wsL_law_r13_l (List.mem_of_getElem? (i := 23) rfl), wsL_law_r14_l (List.mem_of_getElem? (i := 0) rfl), wsL_law_r1_l (List.mem_of_getElem? (i := 5) rfl), wsL_law_r14_l (List.mem_of_getElem? (i := 1) rfl), rfl, rfl, by decide +kernel, by decide +kernel, by decide +kernel, by decide +kernel⟩
theorem oX10_1 : Cond.methodLink RX10 1 objectInit ∈ wsL_law := wsL_law_r14_l (List.mem_of_getElem? (i := 2) rfl)
theorem q0_0 : zFq 0 0 (.object "CoreTests$Chip") := fun C T N h => by
  have h2 : (RX0, TX0, 2) = (C, T, N) := Option.some.inj h
  cases h2
  exact ⟨⟨tyX0, tyX0_ok⟩, nmX0, rfl, rfl, by decide +kernel⟩
theorem q0_1 : zFq 0 1 (.array .int) := fun C T N h => by
  have h2 : (RX0, TX0, 2) = (C, T, N) := Option.some.inj h
  cases h2
  exact ⟨⟨tyX0, tyX0_ok⟩, nmX0, rfl, rfl, by decide +kernel⟩
theorem q1_0 : zFq 1 0 (.array .int) := fun C T N h => by
  have h2 : (RX1, TX1, 2) = (C, T, N) := Option.some.inj h
  cases h2
  exact ⟨⟨tyX1, tyX1_ok⟩, nmX1, rfl, rfl, by decide +kernel⟩
theorem q2_4 : zFq 2 4 (.array .int) := fun C T N h => by
  have h2 : (RX2, TX2, 15) = (C, T, N) := Option.some.inj h
  cases h2
  exact ⟨⟨tyX2, tyX2_ok⟩, nmX2, rfl, rfl, by decide +kernel⟩
theorem q2_5 : zFq 2 5 (.array .int) := fun C T N h => by
  have h2 : (RX2, TX2, 15) = (C, T, N) := Option.some.inj h
  cases h2
  exact ⟨⟨tyX2, tyX2_ok⟩, nmX2, rfl, rfl, by decide +kernel⟩
theorem q2_6 : zFq 2 6 (.array .int) := fun C T N h => by
  have h2 : (RX2, TX2, 15) = (C, T, N) := Option.some.inj h
  cases h2
  exact ⟨⟨tyX2, tyX2_ok⟩, nmX2, rfl, rfl, by decide +kernel⟩
theorem q2_7 : zFq 2 7 (.array .int) := fun C T N h => by
  have h2 : (RX2, TX2, 15) = (C, T, N) := Option.some.inj h
  cases h2
  exact ⟨⟨tyX2, tyX2_ok⟩, nmX2, rfl, rfl, by decide +kernel⟩
theorem q2_8 : zFq 2 8 (.array (.array .int)) := fun C T N h => by
  have h2 : (RX2, TX2, 15) = (C, T, N) := Option.some.inj h
  cases h2
  exact ⟨⟨tyX2, tyX2_ok⟩, nmX2, rfl, rfl, by decide +kernel⟩
theorem q2_9 : zFq 2 9 (.array .int) := fun C T N h => by
  have h2 : (RX2, TX2, 15) = (C, T, N) := Option.some.inj h
  cases h2
  exact ⟨⟨tyX2, tyX2_ok⟩, nmX2, rfl, rfl, by decide +kernel⟩
theorem q2_10 : zFq 2 10 (.array .int) := fun C T N h => by
  have h2 : (RX2, TX2, 15) = (C, T, N) := Option.some.inj h
  cases h2
  exact ⟨⟨tyX2, tyX2_ok⟩, nmX2, rfl, rfl, by decide +kernel⟩
theorem q2_11 : zFq 2 11 (.array (.array .int)) := fun C T N h => by
  have h2 : (RX2, TX2, 15) = (C, T, N) := Option.some.inj h
  cases h2
  exact ⟨⟨tyX2, tyX2_ok⟩, nmX2, rfl, rfl, by decide +kernel⟩
theorem q2_12 : zFq 2 12 (.array (.array .int)) := fun C T N h => by
  have h2 : (RX2, TX2, 15) = (C, T, N) := Option.some.inj h
  cases h2
  exact ⟨⟨tyX2, tyX2_ok⟩, nmX2, rfl, rfl, by decide +kernel⟩
theorem q2_13 : zFq 2 13 (.array .int) := fun C T N h => by
  have h2 : (RX2, TX2, 15) = (C, T, N) := Option.some.inj h
  cases h2
  exact ⟨⟨tyX2, tyX2_ok⟩, nmX2, rfl, rfl, by decide +kernel⟩
theorem q2_14 : zFq 2 14 (.array .int) := fun C T N h => by
  have h2 : (RX2, TX2, 15) = (C, T, N) := Option.some.inj h
  cases h2
  exact ⟨⟨tyX2, tyX2_ok⟩, nmX2, rfl, rfl, by decide +kernel⟩
theorem q3_0 : zFq 3 0 (.object "CoreTests$Chip") := fun C T N h => by
  have h2 : (RX3, TX3, 6) = (C, T, N) := Option.some.inj h
  cases h2
  exact ⟨⟨tyX3, tyX3_ok⟩, nmX3, rfl, rfl, by decide +kernel⟩
theorem q3_1 : zFq 3 1 (.array .int) := fun C T N h => by
  have h2 : (RX3, TX3, 6) = (C, T, N) := Option.some.inj h
  cases h2
  exact ⟨⟨tyX3, tyX3_ok⟩, nmX3, rfl, rfl, by decide +kernel⟩
theorem q3_2 : zFq 3 2 (.array .int) := fun C T N h => by
  have h2 : (RX3, TX3, 6) = (C, T, N) := Option.some.inj h
  cases h2
  exact ⟨⟨tyX3, tyX3_ok⟩, nmX3, rfl, rfl, by decide +kernel⟩
theorem q3_3 : zFq 3 3 (.array .int) := fun C T N h => by
  have h2 : (RX3, TX3, 6) = (C, T, N) := Option.some.inj h
  cases h2
  exact ⟨⟨tyX3, tyX3_ok⟩, nmX3, rfl, rfl, by decide +kernel⟩
theorem q3_4 : zFq 3 4 (.array .int) := fun C T N h => by
  have h2 : (RX3, TX3, 6) = (C, T, N) := Option.some.inj h
  cases h2
  exact ⟨⟨tyX3, tyX3_ok⟩, nmX3, rfl, rfl, by decide +kernel⟩
theorem q3_5 : zFq 3 5 (.array .int) := fun C T N h => by
  have h2 : (RX3, TX3, 6) = (C, T, N) := Option.some.inj h
  cases h2
  exact ⟨⟨tyX3, tyX3_ok⟩, nmX3, rfl, rfl, by decide +kernel⟩
theorem q4_0 : zFq 4 0 (.object "CoreTests$Text") := fun C T N h => by
  have h2 : (RX4, TX4, 2) = (C, T, N) := Option.some.inj h
  cases h2
  exact ⟨⟨tyX4, tyX4_ok⟩, nmX4, rfl, rfl, by decide +kernel⟩
theorem q5_0 : zFq 5 0 (.object "CoreTests$Chip") := fun C T N h => by
  have h2 : (RX5, TX5, 10) = (C, T, N) := Option.some.inj h
  cases h2
  exact ⟨⟨tyX5, tyX5_ok⟩, nmX5, rfl, rfl, by decide +kernel⟩
theorem q5_1 : zFq 5 1 (.object "CoreTests$Plan") := fun C T N h => by
  have h2 : (RX5, TX5, 10) = (C, T, N) := Option.some.inj h
  cases h2
  exact ⟨⟨tyX5, tyX5_ok⟩, nmX5, rfl, rfl, by decide +kernel⟩
theorem q5_2 : zFq 5 2 (.object "CoreTests$Bounds") := fun C T N h => by
  have h2 : (RX5, TX5, 10) = (C, T, N) := Option.some.inj h
  cases h2
  exact ⟨⟨tyX5, tyX5_ok⟩, nmX5, rfl, rfl, by decide +kernel⟩
theorem q5_3 : zFq 5 3 (.array .int) := fun C T N h => by
  have h2 : (RX5, TX5, 10) = (C, T, N) := Option.some.inj h
  cases h2
  exact ⟨⟨tyX5, tyX5_ok⟩, nmX5, rfl, rfl, by decide +kernel⟩
theorem q5_4 : zFq 5 4 (.array (.array .int)) := fun C T N h => by
  have h2 : (RX5, TX5, 10) = (C, T, N) := Option.some.inj h
  cases h2
  exact ⟨⟨tyX5, tyX5_ok⟩, nmX5, rfl, rfl, by decide +kernel⟩
theorem q5_5 : zFq 5 5 (.array .int) := fun C T N h => by
  have h2 : (RX5, TX5, 10) = (C, T, N) := Option.some.inj h
  cases h2
  exact ⟨⟨tyX5, tyX5_ok⟩, nmX5, rfl, rfl, by decide +kernel⟩
theorem q5_6 : zFq 5 6 (.array .int) := fun C T N h => by
  have h2 : (RX5, TX5, 10) = (C, T, N) := Option.some.inj h
  cases h2
  exact ⟨⟨tyX5, tyX5_ok⟩, nmX5, rfl, rfl, by decide +kernel⟩
theorem q6_0 : zFq 6 0 (.array (.array .int)) := fun C T N h => by
  have h2 : (RX6, TX6, 2) = (C, T, N) := Option.some.inj h
  cases h2
  exact ⟨⟨tyX6, tyX6_ok⟩, nmX6, rfl, rfl, by decide +kernel⟩
theorem q7_0 : zFq 7 0 (.object "CoreTests$Chip") := fun C T N h => by
  have h2 : (RX7, TX7, 5) = (C, T, N) := Option.some.inj h
  cases h2
  exact ⟨⟨tyX7, tyX7_ok⟩, nmX7, rfl, rfl, by decide +kernel⟩
theorem q7_1 : zFq 7 1 (.array .int) := fun C T N h => by
  have h2 : (RX7, TX7, 5) = (C, T, N) := Option.some.inj h
  cases h2
  exact ⟨⟨tyX7, tyX7_ok⟩, nmX7, rfl, rfl, by decide +kernel⟩
theorem q7_2 : zFq 7 2 (.array .int) := fun C T N h => by
  have h2 : (RX7, TX7, 5) = (C, T, N) := Option.some.inj h
  cases h2
  exact ⟨⟨tyX7, tyX7_ok⟩, nmX7, rfl, rfl, by decide +kernel⟩
theorem q7_3 : zFq 7 3 (.array .int) := fun C T N h => by
  have h2 : (RX7, TX7, 5) = (C, T, N) := Option.some.inj h
  cases h2
  exact ⟨⟨tyX7, tyX7_ok⟩, nmX7, rfl, rfl, by decide +kernel⟩
theorem q8_0 : zFq 8 0 (.array .int) := fun C T N h => by
  have h2 : (RX8, TX8, 2) = (C, T, N) := Option.some.inj h
  cases h2
  exact ⟨⟨tyX8, tyX8_ok⟩, nmX8, rfl, rfl, by decide +kernel⟩
theorem q9_0 : zFq 9 0 (.object "CoreTests$Text") := fun C T N h => by
  have h2 : (RX9, TX9, 12) = (C, T, N) := Option.some.inj h
  cases h2
  exact ⟨⟨tyX9, tyX9_ok⟩, nmX9, rfl, rfl, by decide +kernel⟩
theorem q9_1 : zFq 9 1 (.object "CoreTests$Reader") := fun C T N h => by
  have h2 : (RX9, TX9, 12) = (C, T, N) := Option.some.inj h
  cases h2
  exact ⟨⟨tyX9, tyX9_ok⟩, nmX9, rfl, rfl, by decide +kernel⟩
theorem q9_2 : zFq 9 2 (.object "CoreTests$Chip") := fun C T N h => by
  have h2 : (RX9, TX9, 12) = (C, T, N) := Option.some.inj h
  cases h2
  exact ⟨⟨tyX9, tyX9_ok⟩, nmX9, rfl, rfl, by decide +kernel⟩
theorem q9_3 : zFq 9 3 (.object "CoreTests$Chip") := fun C T N h => by
  have h2 : (RX9, TX9, 12) = (C, T, N) := Option.some.inj h
  cases h2
  exact ⟨⟨tyX9, tyX9_ok⟩, nmX9, rfl, rfl, by decide +kernel⟩
theorem q9_4 : zFq 9 4 (.object "CoreTests$Plan") := fun C T N h => by
  have h2 : (RX9, TX9, 12) = (C, T, N) := Option.some.inj h
  cases h2
  exact ⟨⟨tyX9, tyX9_ok⟩, nmX9, rfl, rfl, by decide +kernel⟩
theorem q9_5 : zFq 9 5 (.object "CoreTests$Bounds") := fun C T N h => by
  have h2 : (RX9, TX9, 12) = (C, T, N) := Option.some.inj h
  cases h2
  exact ⟨⟨tyX9, tyX9_ok⟩, nmX9, rfl, rfl, by decide +kernel⟩
theorem q9_6 : zFq 9 6 (.object "CoreTests$Search") := fun C T N h => by
  have h2 : (RX9, TX9, 12) = (C, T, N) := Option.some.inj h
  cases h2
  exact ⟨⟨tyX9, tyX9_ok⟩, nmX9, rfl, rfl, by decide +kernel⟩
theorem q9_7 : zFq 9 7 (.array .int) := fun C T N h => by
  have h2 : (RX9, TX9, 12) = (C, T, N) := Option.some.inj h
  cases h2
  exact ⟨⟨tyX9, tyX9_ok⟩, nmX9, rfl, rfl, by decide +kernel⟩
theorem q9_8 : zFq 9 8 (.object "CoreTests$Shelf") := fun C T N h => by
  have h2 : (RX9, TX9, 12) = (C, T, N) := Option.some.inj h
  cases h2
  exact ⟨⟨tyX9, tyX9_ok⟩, nmX9, rfl, rfl, by decide +kernel⟩
theorem q9_9 : zFq 9 9 (.object "CoreTests$Shelf") := fun C T N h => by
  have h2 : (RX9, TX9, 12) = (C, T, N) := Option.some.inj h
  cases h2
  exact ⟨⟨tyX9, tyX9_ok⟩, nmX9, rfl, rfl, by decide +kernel⟩
theorem q9_10 : zFq 9 10 (.object "CoreTests$Cause") := fun C T N h => by
  have h2 : (RX9, TX9, 12) = (C, T, N) := Option.some.inj h
  cases h2
  exact ⟨⟨tyX9, tyX9_ok⟩, nmX9, rfl, rfl, by decide +kernel⟩
theorem q9_11 : zFq 9 11 (.object "CoreTests$Sightings") := fun C T N h => by
  have h2 : (RX9, TX9, 12) = (C, T, N) := Option.some.inj h
  cases h2
  exact ⟨⟨tyX9, tyX9_ok⟩, nmX9, rfl, rfl, by decide +kernel⟩
theorem q10_4 : zFq 10 4 (.array .int) := fun C T N h => by
  have h2 : (RX10, TX10, 44) = (C, T, N) := Option.some.inj h
  cases h2
  exact ⟨⟨tyX10, tyX10_ok⟩, nmX10, rfl, rfl, by decide +kernel⟩
theorem q10_5 : zFq 10 5 (.array .int) := fun C T N h => by
  have h2 : (RX10, TX10, 44) = (C, T, N) := Option.some.inj h
  cases h2
  exact ⟨⟨tyX10, tyX10_ok⟩, nmX10, rfl, rfl, by decide +kernel⟩
theorem q10_6 : zFq 10 6 (.array .int) := fun C T N h => by
  have h2 : (RX10, TX10, 44) = (C, T, N) := Option.some.inj h
  cases h2
  exact ⟨⟨tyX10, tyX10_ok⟩, nmX10, rfl, rfl, by decide +kernel⟩
theorem q10_7 : zFq 10 7 (.array .int) := fun C T N h => by
  have h2 : (RX10, TX10, 44) = (C, T, N) := Option.some.inj h
  cases h2
  exact ⟨⟨tyX10, tyX10_ok⟩, nmX10, rfl, rfl, by decide +kernel⟩
theorem q10_8 : zFq 10 8 (.array .int) := fun C T N h => by
  have h2 : (RX10, TX10, 44) = (C, T, N) := Option.some.inj h
  cases h2
  exact ⟨⟨tyX10, tyX10_ok⟩, nmX10, rfl, rfl, by decide +kernel⟩
theorem q10_9 : zFq 10 9 (.array .int) := fun C T N h => by
  have h2 : (RX10, TX10, 44) = (C, T, N) := Option.some.inj h
  cases h2
  exact ⟨⟨tyX10, tyX10_ok⟩, nmX10, rfl, rfl, by decide +kernel⟩
theorem q10_10 : zFq 10 10 (.array .int) := fun C T N h => by
  have h2 : (RX10, TX10, 44) = (C, T, N) := Option.some.inj h
  cases h2
  exact ⟨⟨tyX10, tyX10_ok⟩, nmX10, rfl, rfl, by decide +kernel⟩
theorem q10_11 : zFq 10 11 (.array .int) := fun C T N h => by
  have h2 : (RX10, TX10, 44) = (C, T, N) := Option.some.inj h
  cases h2
  exact ⟨⟨tyX10, tyX10_ok⟩, nmX10, rfl, rfl, by decide +kernel⟩
theorem q10_13 : zFq 10 13 (.array .int) := fun C T N h => by
  have h2 : (RX10, TX10, 44) = (C, T, N) := Option.some.inj h
  cases h2
  exact ⟨⟨tyX10, tyX10_ok⟩, nmX10, rfl, rfl, by decide +kernel⟩
theorem q10_15 : zFq 10 15 (.array .int) := fun C T N h => by
  have h2 : (RX10, TX10, 44) = (C, T, N) := Option.some.inj h
  cases h2
  exact ⟨⟨tyX10, tyX10_ok⟩, nmX10, rfl, rfl, by decide +kernel⟩
theorem q10_17 : zFq 10 17 (.array .int) := fun C T N h => by
  have h2 : (RX10, TX10, 44) = (C, T, N) := Option.some.inj h
  cases h2
  exact ⟨⟨tyX10, tyX10_ok⟩, nmX10, rfl, rfl, by decide +kernel⟩
theorem q10_19 : zFq 10 19 (.array .int) := fun C T N h => by
  have h2 : (RX10, TX10, 44) = (C, T, N) := Option.some.inj h
  cases h2
  exact ⟨⟨tyX10, tyX10_ok⟩, nmX10, rfl, rfl, by decide +kernel⟩
theorem q10_27 : zFq 10 27 (.array .int) := fun C T N h => by
  have h2 : (RX10, TX10, 44) = (C, T, N) := Option.some.inj h
  cases h2
  exact ⟨⟨tyX10, tyX10_ok⟩, nmX10, rfl, rfl, by decide +kernel⟩
theorem q10_28 : zFq 10 28 (.array .int) := fun C T N h => by
  have h2 : (RX10, TX10, 44) = (C, T, N) := Option.some.inj h
  cases h2
  exact ⟨⟨tyX10, tyX10_ok⟩, nmX10, rfl, rfl, by decide +kernel⟩
theorem q10_29 : zFq 10 29 (.array .int) := fun C T N h => by
  have h2 : (RX10, TX10, 44) = (C, T, N) := Option.some.inj h
  cases h2
  exact ⟨⟨tyX10, tyX10_ok⟩, nmX10, rfl, rfl, by decide +kernel⟩
theorem q10_30 : zFq 10 30 (.array .int) := fun C T N h => by
  have h2 : (RX10, TX10, 44) = (C, T, N) := Option.some.inj h
  cases h2
  exact ⟨⟨tyX10, tyX10_ok⟩, nmX10, rfl, rfl, by decide +kernel⟩
theorem q10_31 : zFq 10 31 (.array .int) := fun C T N h => by
  have h2 : (RX10, TX10, 44) = (C, T, N) := Option.some.inj h
  cases h2
  exact ⟨⟨tyX10, tyX10_ok⟩, nmX10, rfl, rfl, by decide +kernel⟩
theorem q10_32 : zFq 10 32 (.array .int) := fun C T N h => by
  have h2 : (RX10, TX10, 44) = (C, T, N) := Option.some.inj h
  cases h2
  exact ⟨⟨tyX10, tyX10_ok⟩, nmX10, rfl, rfl, by decide +kernel⟩
theorem q10_33 : zFq 10 33 (.array .int) := fun C T N h => by
  have h2 : (RX10, TX10, 44) = (C, T, N) := Option.some.inj h
  cases h2
  exact ⟨⟨tyX10, tyX10_ok⟩, nmX10, rfl, rfl, by decide +kernel⟩
theorem q10_34 : zFq 10 34 (.array .int) := fun C T N h => by
  have h2 : (RX10, TX10, 44) = (C, T, N) := Option.some.inj h
  cases h2
  exact ⟨⟨tyX10, tyX10_ok⟩, nmX10, rfl, rfl, by decide +kernel⟩
theorem q10_35 : zFq 10 35 (.array .int) := fun C T N h => by
  have h2 : (RX10, TX10, 44) = (C, T, N) := Option.some.inj h
  cases h2
  exact ⟨⟨tyX10, tyX10_ok⟩, nmX10, rfl, rfl, by decide +kernel⟩
theorem q10_36 : zFq 10 36 (.array .int) := fun C T N h => by
  have h2 : (RX10, TX10, 44) = (C, T, N) := Option.some.inj h
  cases h2
  exact ⟨⟨tyX10, tyX10_ok⟩, nmX10, rfl, rfl, by decide +kernel⟩
theorem q10_39 : zFq 10 39 (.array .int) := fun C T N h => by
  have h2 : (RX10, TX10, 44) = (C, T, N) := Option.some.inj h
  cases h2
  exact ⟨⟨tyX10, tyX10_ok⟩, nmX10, rfl, rfl, by decide +kernel⟩
theorem q10_40 : zFq 10 40 (.array .int) := fun C T N h => by
  have h2 : (RX10, TX10, 44) = (C, T, N) := Option.some.inj h
  cases h2
  exact ⟨⟨tyX10, tyX10_ok⟩, nmX10, rfl, rfl, by decide +kernel⟩
theorem q10_41 : zFq 10 41 (.array .int) := fun C T N h => by
  have h2 : (RX10, TX10, 44) = (C, T, N) := Option.some.inj h
  cases h2
  exact ⟨⟨tyX10, tyX10_ok⟩, nmX10, rfl, rfl, by decide +kernel⟩
theorem q10_42 : zFq 10 42 (.array .int) := fun C T N h => by
  have h2 : (RX10, TX10, 44) = (C, T, N) := Option.some.inj h
  cases h2
  exact ⟨⟨tyX10, tyX10_ok⟩, nmX10, rfl, rfl, by decide +kernel⟩
theorem q10_43 : zFq 10 43 (.array .int) := fun C T N h => by
  have h2 : (RX10, TX10, 44) = (C, T, N) := Option.some.inj h
  cases h2
  exact ⟨⟨tyX10, tyX10_ok⟩, nmX10, rfl, rfl, by decide +kernel⟩
theorem d0_ty : ∀ j, j < 2 → defaultValue (tyX0 j) = if zfr 0 j then .null else .int 0 := by decide +kernel
theorem d0 : ∀ (C : String) (T : u_T), vwCl[0]? = some (C, T, 2) → ∀ j, j < 2 → ∀ ty, parseFieldDescriptor (T j).2.2.1 = some ty → defaultValue ty = if zfr 0 j then .null else .int 0 := fun C T h j hj ty ht => by
  have h2 : (RX0, TX0, 2) = (C, T, 2) := Option.some.inj h
  cases h2
  have e := ht.symm.trans (tyX0_ok j hj)
  cases e
  exact d0_ty j hj
theorem d1_ty : ∀ j, j < 2 → defaultValue (tyX1 j) = if zfr 1 j then .null else .int 0 := by decide +kernel
theorem d1 : ∀ (C : String) (T : u_T), vwCl[1]? = some (C, T, 2) → ∀ j, j < 2 → ∀ ty, parseFieldDescriptor (T j).2.2.1 = some ty → defaultValue ty = if zfr 1 j then .null else .int 0 := fun C T h j hj ty ht => by
  have h2 : (RX1, TX1, 2) = (C, T, 2) := Option.some.inj h
  cases h2
  have e := ht.symm.trans (tyX1_ok j hj)
  cases e
  exact d1_ty j hj
theorem d2_ty : ∀ j, j < 15 → defaultValue (tyX2 j) = if zfr 2 j then .null else .int 0 := by decide +kernel
theorem d2 : ∀ (C : String) (T : u_T), vwCl[2]? = some (C, T, 15) → ∀ j, j < 15 → ∀ ty, parseFieldDescriptor (T j).2.2.1 = some ty → defaultValue ty = if zfr 2 j then .null else .int 0 := fun C T h j hj ty ht => by
  have h2 : (RX2, TX2, 15) = (C, T, 15) := Option.some.inj h
  cases h2
  have e := ht.symm.trans (tyX2_ok j hj)
  cases e
  exact d2_ty j hj
theorem d3_ty : ∀ j, j < 6 → defaultValue (tyX3 j) = if zfr 3 j then .null else .int 0 := by decide +kernel
theorem d3 : ∀ (C : String) (T : u_T), vwCl[3]? = some (C, T, 6) → ∀ j, j < 6 → ∀ ty, parseFieldDescriptor (T j).2.2.1 = some ty → defaultValue ty = if zfr 3 j then .null else .int 0 := fun C T h j hj ty ht => by
  have h2 : (RX3, TX3, 6) = (C, T, 6) := Option.some.inj h
  cases h2
  have e := ht.symm.trans (tyX3_ok j hj)
  cases e
  exact d3_ty j hj
theorem d4_ty : ∀ j, j < 2 → defaultValue (tyX4 j) = if zfr 4 j then .null else .int 0 := by decide +kernel
theorem d4 : ∀ (C : String) (T : u_T), vwCl[4]? = some (C, T, 2) → ∀ j, j < 2 → ∀ ty, parseFieldDescriptor (T j).2.2.1 = some ty → defaultValue ty = if zfr 4 j then .null else .int 0 := fun C T h j hj ty ht => by
  have h2 : (RX4, TX4, 2) = (C, T, 2) := Option.some.inj h
  cases h2
  have e := ht.symm.trans (tyX4_ok j hj)
  cases e
  exact d4_ty j hj
theorem d5_ty : ∀ j, j < 10 → defaultValue (tyX5 j) = if zfr 5 j then .null else .int 0 := by decide +kernel
theorem d5 : ∀ (C : String) (T : u_T), vwCl[5]? = some (C, T, 10) → ∀ j, j < 10 → ∀ ty, parseFieldDescriptor (T j).2.2.1 = some ty → defaultValue ty = if zfr 5 j then .null else .int 0 := fun C T h j hj ty ht => by
  have h2 : (RX5, TX5, 10) = (C, T, 10) := Option.some.inj h
  cases h2
  have e := ht.symm.trans (tyX5_ok j hj)
  cases e
  exact d5_ty j hj
theorem d6_ty : ∀ j, j < 2 → defaultValue (tyX6 j) = if zfr 6 j then .null else .int 0 := by decide +kernel
theorem d6 : ∀ (C : String) (T : u_T), vwCl[6]? = some (C, T, 2) → ∀ j, j < 2 → ∀ ty, parseFieldDescriptor (T j).2.2.1 = some ty → defaultValue ty = if zfr 6 j then .null else .int 0 := fun C T h j hj ty ht => by
  have h2 : (RX6, TX6, 2) = (C, T, 2) := Option.some.inj h
  cases h2
  have e := ht.symm.trans (tyX6_ok j hj)
  cases e
  exact d6_ty j hj
theorem d7_ty : ∀ j, j < 5 → defaultValue (tyX7 j) = if zfr 7 j then .null else .int 0 := by decide +kernel
theorem d7 : ∀ (C : String) (T : u_T), vwCl[7]? = some (C, T, 5) → ∀ j, j < 5 → ∀ ty, parseFieldDescriptor (T j).2.2.1 = some ty → defaultValue ty = if zfr 7 j then .null else .int 0 := fun C T h j hj ty ht => by
  have h2 : (RX7, TX7, 5) = (C, T, 5) := Option.some.inj h
  cases h2
  have e := ht.symm.trans (tyX7_ok j hj)
  cases e
  exact d7_ty j hj
theorem d8_ty : ∀ j, j < 2 → defaultValue (tyX8 j) = if zfr 8 j then .null else .int 0 := by decide +kernel
theorem d8 : ∀ (C : String) (T : u_T), vwCl[8]? = some (C, T, 2) → ∀ j, j < 2 → ∀ ty, parseFieldDescriptor (T j).2.2.1 = some ty → defaultValue ty = if zfr 8 j then .null else .int 0 := fun C T h j hj ty ht => by
  have h2 : (RX8, TX8, 2) = (C, T, 2) := Option.some.inj h
  cases h2
  have e := ht.symm.trans (tyX8_ok j hj)
  cases e
  exact d8_ty j hj
theorem d9_ty : ∀ j, j < 12 → defaultValue (tyX9 j) = if zfr 9 j then .null else .int 0 := by decide +kernel
theorem d9 : ∀ (C : String) (T : u_T), vwCl[9]? = some (C, T, 12) → ∀ j, j < 12 → ∀ ty, parseFieldDescriptor (T j).2.2.1 = some ty → defaultValue ty = if zfr 9 j then .null else .int 0 := fun C T h j hj ty ht => by
  have h2 : (RX9, TX9, 12) = (C, T, 12) := Option.some.inj h
  cases h2
  have e := ht.symm.trans (tyX9_ok j hj)
  cases e
  exact d9_ty j hj
theorem d10_ty : ∀ j, j < 44 → defaultValue (tyX10 j) = if zfr 10 j then .null else .int 0 := by decide +kernel
theorem d10 : ∀ (C : String) (T : u_T), vwCl[10]? = some (C, T, 44) → ∀ j, j < 44 → ∀ ty, parseFieldDescriptor (T j).2.2.1 = some ty → defaultValue ty = if zfr 10 j then .null else .int 0 := fun C T h j hj ty ht => by
  have h2 : (RX10, TX10, 44) = (C, T, 44) := Option.some.inj h
  cases h2
  have e := ht.symm.trans (tyX10_ok j hj)
  cases e
  exact d10_ty j hj
