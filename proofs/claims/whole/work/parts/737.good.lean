theorem good_inv : GOODI Inv := by
  refine ⟨fun z ar ⟨V, E, F, S, A, IB, I, T, k, h⟩ => ?_, fun z ⟨V, E, F, S, A, IB, I, T, k, h⟩ => ?_⟩
  · unfold STP
    generalize ar 0 &&& 63 = x
    by_cases h0 : x = 0
    · obtain ⟨z9, B1, B2, B3, a, b⟩ := g_feed (ar := ar) h
      refine ⟨z9, B1, B2, B3, ?_, b⟩
      rw [if_pos h0]; exact a
    by_cases h1 : x = 1
    · obtain ⟨z9, B1, B2, B3, a, b⟩ := g_village (ar := ar) h
      refine ⟨z9, B1, B2, B3, ?_, b⟩
      rw [if_neg h0, if_pos h1]; exact a
    by_cases h2 : x = 2
    · obtain ⟨z9, B1, B2, B3, a, b⟩ := g_fault (ar := ar) h
      refine ⟨z9, B1, B2, B3, ?_, b⟩
      rw [if_neg h0, if_neg h1, if_pos h2]; exact a
    by_cases h3 : x = 3
    · obtain ⟨z9, B1, B2, B3, a, b⟩ := g_count (ar := ar) h
      refine ⟨z9, B1, B2, B3, ?_, b⟩
      rw [if_neg h0, if_neg h1, if_neg h2, if_pos h3]; exact a
    by_cases h4 : x = 4
    · obtain ⟨z9, B1, B2, B3, a, b⟩ := g_person (ar := ar) h
      refine ⟨z9, B1, B2, B3, ?_, b⟩
      rw [if_neg h0, if_neg h1, if_neg h2, if_neg h3, if_pos h4]; exact a
    by_cases h5 : x = 5
    · obtain ⟨z9, B1, B2, B3, a, b⟩ := g_house (ar := ar) h
      refine ⟨z9, B1, B2, B3, ?_, b⟩
      rw [if_neg h0, if_neg h1, if_neg h2, if_neg h3, if_neg h4, if_pos h5]; exact a
    by_cases h6 : x = 6
    · obtain ⟨z9, B1, B2, B3, a, b⟩ := g_evenings (ar := ar) h
      refine ⟨z9, B1, B2, B3, ?_, b⟩
      rw [if_neg h0, if_neg h1, if_neg h2, if_neg h3, if_neg h4, if_neg h5, if_pos h6]; exact a
    by_cases h7 : x = 7
    · obtain ⟨z9, B1, B2, B3, a, b⟩ := g_move (ar := ar) h
      refine ⟨z9, B1, B2, B3, ?_, b⟩
      rw [if_neg h0, if_neg h1, if_neg h2, if_neg h3, if_neg h4, if_neg h5, if_neg h6, if_pos h7]; exact a
    by_cases h8 : x = 8
    · obtain ⟨z9, B1, B2, B3, a, b⟩ := g_found (ar := ar) h
      refine ⟨z9, B1, B2, B3, ?_, b⟩
      rw [if_neg h0, if_neg h1, if_neg h2, if_neg h3, if_neg h4, if_neg h5, if_neg h6, if_neg h7, if_pos h8]; exact a
    by_cases h9 : x = 9
    · obtain ⟨z9, B1, B2, B3, a, b⟩ := g_join (ar := ar) h
      refine ⟨z9, B1, B2, B3, ?_, b⟩
      rw [if_neg h0, if_neg h1, if_neg h2, if_neg h3, if_neg h4, if_neg h5, if_neg h6, if_neg h7, if_neg h8, if_pos h9]; exact a
    by_cases h10 : x = 10
    · obtain ⟨z9, B1, B2, B3, a, b⟩ := g_rank (ar := ar) h
      refine ⟨z9, B1, B2, B3, ?_, b⟩
      rw [if_neg h0, if_neg h1, if_neg h2, if_neg h3, if_neg h4, if_neg h5, if_neg h6, if_neg h7, if_neg h8, if_neg h9, if_pos h10]; exact a
    by_cases h11 : x = 11
    · obtain ⟨z9, B1, B2, B3, a, b⟩ := g_undo (ar := ar) h
      refine ⟨z9, B1, B2, B3, ?_, b⟩
      rw [if_neg h0, if_neg h1, if_neg h2, if_neg h3, if_neg h4, if_neg h5, if_neg h6, if_neg h7, if_neg h8, if_neg h9, if_neg h10, if_pos h11]; exact a
    by_cases h12 : x = 12
    · obtain ⟨z9, B1, B2, B3, a, b⟩ := g_then (ar := ar) h
      refine ⟨z9, B1, B2, B3, ?_, b⟩
      rw [if_neg h0, if_neg h1, if_neg h2, if_neg h3, if_neg h4, if_neg h5, if_neg h6, if_neg h7, if_neg h8, if_neg h9, if_neg h10, if_neg h11, if_pos h12]; exact a
    by_cases h13 : x = 13
    · obtain ⟨z9, B1, B2, B3, a, b⟩ := g_size (ar := ar) h
      refine ⟨z9, B1, B2, B3, ?_, b⟩
      rw [if_neg h0, if_neg h1, if_neg h2, if_neg h3, if_neg h4, if_neg h5, if_neg h6, if_neg h7, if_neg h8, if_neg h9, if_neg h10, if_neg h11, if_neg h12, if_pos h13]; exact a
    by_cases h14 : x = 14
    · obtain ⟨z9, B1, B2, B3, a, b⟩ := g_later (ar := ar) h
      refine ⟨z9, B1, B2, B3, ?_, b⟩
      rw [if_neg h0, if_neg h1, if_neg h2, if_neg h3, if_neg h4, if_neg h5, if_neg h6, if_neg h7, if_neg h8, if_neg h9, if_neg h10, if_neg h11, if_neg h12, if_neg h13, if_pos h14]; exact a
    by_cases h15 : x = 15
    · obtain ⟨z9, B1, B2, B3, a, b⟩ := g_meet (ar := ar) h
      refine ⟨z9, B1, B2, B3, ?_, b⟩
      rw [if_neg h0, if_neg h1, if_neg h2, if_neg h3, if_neg h4, if_neg h5, if_neg h6, if_neg h7, if_neg h8, if_neg h9, if_neg h10, if_neg h11, if_neg h12, if_neg h13, if_neg h14, if_pos h15]; exact a
    by_cases h16 : x = 16
    · obtain ⟨z9, B1, B2, B3, a, b⟩ := g_together (ar := ar) h
      refine ⟨z9, B1, B2, B3, ?_, b⟩
      rw [if_neg h0, if_neg h1, if_neg h2, if_neg h3, if_neg h4, if_neg h5, if_neg h6, if_neg h7, if_neg h8, if_neg h9, if_neg h10, if_neg h11, if_neg h12, if_neg h13, if_neg h14, if_neg h15, if_pos h16]; exact a
    by_cases h17 : x = 17
    · obtain ⟨z9, B1, B2, B3, a, b⟩ := g_goes (ar := ar) h
      refine ⟨z9, B1, B2, B3, ?_, b⟩
      rw [if_neg h0, if_neg h1, if_neg h2, if_neg h3, if_neg h4, if_neg h5, if_neg h6, if_neg h7, if_neg h8, if_neg h9, if_neg h10, if_neg h11, if_neg h12, if_neg h13, if_neg h14, if_neg h15, if_neg h16, if_pos h17]; exact a
    by_cases h18 : x = 18
    · obtain ⟨z9, B1, B2, B3, a, b⟩ := g_falls (ar := ar) h
      refine ⟨z9, B1, B2, B3, ?_, b⟩
      rw [if_neg h0, if_neg h1, if_neg h2, if_neg h3, if_neg h4, if_neg h5, if_neg h6, if_neg h7, if_neg h8, if_neg h9, if_neg h10, if_neg h11, if_neg h12, if_neg h13, if_neg h14, if_neg h15, if_neg h16, if_neg h17, if_pos h18]; exact a
    by_cases h19 : x = 19
    · obtain ⟨z9, B1, B2, B3, a, b⟩ := g_who (ar := ar) h
      refine ⟨z9, B1, B2, B3, ?_, b⟩
      rw [if_neg h0, if_neg h1, if_neg h2, if_neg h3, if_neg h4, if_neg h5, if_neg h6, if_neg h7, if_neg h8, if_neg h9, if_neg h10, if_neg h11, if_neg h12, if_neg h13, if_neg h14, if_neg h15, if_neg h16, if_neg h17, if_neg h18, if_pos h19]; exact a
    by_cases h20 : x = 20
    · obtain ⟨z9, B1, B2, B3, a, b⟩ := g_round (ar := ar) h
      refine ⟨z9, B1, B2, B3, ?_, b⟩
      rw [if_neg h0, if_neg h1, if_neg h2, if_neg h3, if_neg h4, if_neg h5, if_neg h6, if_neg h7, if_neg h8, if_neg h9, if_neg h10, if_neg h11, if_neg h12, if_neg h13, if_neg h14, if_neg h15, if_neg h16, if_neg h17, if_neg h18, if_neg h19, if_pos h20]; exact a
    by_cases h21 : x = 21
    · obtain ⟨z9, B1, B2, B3, a, b⟩ := g_asNow (ar := ar) h
      refine ⟨z9, B1, B2, B3, ?_, b⟩
      rw [if_neg h0, if_neg h1, if_neg h2, if_neg h3, if_neg h4, if_neg h5, if_neg h6, if_neg h7, if_neg h8, if_neg h9, if_neg h10, if_neg h11, if_neg h12, if_neg h13, if_neg h14, if_neg h15, if_neg h16, if_neg h17, if_neg h18, if_neg h19, if_neg h20, if_pos h21]; exact a
    by_cases h22 : x = 22
    · obtain ⟨z9, B1, B2, B3, a, b⟩ := g_known (ar := ar) h
      refine ⟨z9, B1, B2, B3, ?_, b⟩
      rw [if_neg h0, if_neg h1, if_neg h2, if_neg h3, if_neg h4, if_neg h5, if_neg h6, if_neg h7, if_neg h8, if_neg h9, if_neg h10, if_neg h11, if_neg h12, if_neg h13, if_neg h14, if_neg h15, if_neg h16, if_neg h17, if_neg h18, if_neg h19, if_neg h20, if_neg h21, if_pos h22]; exact a
    by_cases h23 : x = 23
    · obtain ⟨z9, B1, B2, B3, a, b⟩ := g_allKnown (ar := ar) h
      refine ⟨z9, B1, B2, B3, ?_, b⟩
      rw [if_neg h0, if_neg h1, if_neg h2, if_neg h3, if_neg h4, if_neg h5, if_neg h6, if_neg h7, if_neg h8, if_neg h9, if_neg h10, if_neg h11, if_neg h12, if_neg h13, if_neg h14, if_neg h15, if_neg h16, if_neg h17, if_neg h18, if_neg h19, if_neg h20, if_neg h21, if_neg h22, if_pos h23]; exact a
    by_cases h24 : x = 24
    · obtain ⟨z9, B1, B2, B3, a, b⟩ := g_toMeet (ar := ar) h
      refine ⟨z9, B1, B2, B3, ?_, b⟩
      rw [if_neg h0, if_neg h1, if_neg h2, if_neg h3, if_neg h4, if_neg h5, if_neg h6, if_neg h7, if_neg h8, if_neg h9, if_neg h10, if_neg h11, if_neg h12, if_neg h13, if_neg h14, if_neg h15, if_neg h16, if_neg h17, if_neg h18, if_neg h19, if_neg h20, if_neg h21, if_neg h22, if_neg h23, if_pos h24]; exact a
    by_cases h25 : x = 25
    · obtain ⟨z9, B1, B2, B3, a, b⟩ := g_partners (ar := ar) h
      refine ⟨z9, B1, B2, B3, ?_, b⟩
      rw [if_neg h0, if_neg h1, if_neg h2, if_neg h3, if_neg h4, if_neg h5, if_neg h6, if_neg h7, if_neg h8, if_neg h9, if_neg h10, if_neg h11, if_neg h12, if_neg h13, if_neg h14, if_neg h15, if_neg h16, if_neg h17, if_neg h18, if_neg h19, if_neg h20, if_neg h21, if_neg h22, if_neg h23, if_neg h24, if_pos h25]; exact a
    by_cases h26 : x = 26
    · obtain ⟨z9, B1, B2, B3, a, b⟩ := g_halves (ar := ar) h
      refine ⟨z9, B1, B2, B3, ?_, b⟩
      rw [if_neg h0, if_neg h1, if_neg h2, if_neg h3, if_neg h4, if_neg h5, if_neg h6, if_neg h7, if_neg h8, if_neg h9, if_neg h10, if_neg h11, if_neg h12, if_neg h13, if_neg h14, if_neg h15, if_neg h16, if_neg h17, if_neg h18, if_neg h19, if_neg h20, if_neg h21, if_neg h22, if_neg h23, if_neg h24, if_neg h25, if_pos h26]; exact a
    by_cases h27 : x = 27
    · obtain ⟨z9, B1, B2, B3, a, b⟩ := g_chain (ar := ar) h
      refine ⟨z9, B1, B2, B3, ?_, b⟩
      rw [if_neg h0, if_neg h1, if_neg h2, if_neg h3, if_neg h4, if_neg h5, if_neg h6, if_neg h7, if_neg h8, if_neg h9, if_neg h10, if_neg h11, if_neg h12, if_neg h13, if_neg h14, if_neg h15, if_neg h16, if_neg h17, if_neg h18, if_neg h19, if_neg h20, if_neg h21, if_neg h22, if_neg h23, if_neg h24, if_neg h25, if_neg h26, if_pos h27]; exact a
    by_cases h28 : x = 28
    · obtain ⟨z9, B1, B2, B3, a, b⟩ := g_see (ar := ar) h
      refine ⟨z9, B1, B2, B3, ?_, b⟩
      rw [if_neg h0, if_neg h1, if_neg h2, if_neg h3, if_neg h4, if_neg h5, if_neg h6, if_neg h7, if_neg h8, if_neg h9, if_neg h10, if_neg h11, if_neg h12, if_neg h13, if_neg h14, if_neg h15, if_neg h16, if_neg h17, if_neg h18, if_neg h19, if_neg h20, if_neg h21, if_neg h22, if_neg h23, if_neg h24, if_neg h25, if_neg h26, if_neg h27, if_pos h28]; exact a
    by_cases h29 : x = 29
    · obtain ⟨z9, B1, B2, B3, a, b⟩ := g_forget (ar := ar) h
      refine ⟨z9, B1, B2, B3, ?_, b⟩
      rw [if_neg h0, if_neg h1, if_neg h2, if_neg h3, if_neg h4, if_neg h5, if_neg h6, if_neg h7, if_neg h8, if_neg h9, if_neg h10, if_neg h11, if_neg h12, if_neg h13, if_neg h14, if_neg h15, if_neg h16, if_neg h17, if_neg h18, if_neg h19, if_neg h20, if_neg h21, if_neg h22, if_neg h23, if_neg h24, if_neg h25, if_neg h26, if_neg h27, if_neg h28, if_pos h29]; exact a
    by_cases h30 : x = 30
    · obtain ⟨z9, B1, B2, B3, a, b⟩ := g_ranked (ar := ar) h
      refine ⟨z9, B1, B2, B3, ?_, b⟩
      rw [if_neg h0, if_neg h1, if_neg h2, if_neg h3, if_neg h4, if_neg h5, if_neg h6, if_neg h7, if_neg h8, if_neg h9, if_neg h10, if_neg h11, if_neg h12, if_neg h13, if_neg h14, if_neg h15, if_neg h16, if_neg h17, if_neg h18, if_neg h19, if_neg h20, if_neg h21, if_neg h22, if_neg h23, if_neg h24, if_neg h25, if_neg h26, if_neg h27, if_neg h28, if_neg h29, if_pos h30]; exact a
    by_cases h31 : x = 31
    · obtain ⟨z9, B1, B2, B3, a, b⟩ := g_look (ar := ar) h
      refine ⟨z9, B1, B2, B3, ?_, b⟩
      rw [if_neg h0, if_neg h1, if_neg h2, if_neg h3, if_neg h4, if_neg h5, if_neg h6, if_neg h7, if_neg h8, if_neg h9, if_neg h10, if_neg h11, if_neg h12, if_neg h13, if_neg h14, if_neg h15, if_neg h16, if_neg h17, if_neg h18, if_neg h19, if_neg h20, if_neg h21, if_neg h22, if_neg h23, if_neg h24, if_neg h25, if_neg h26, if_neg h27, if_neg h28, if_neg h29, if_neg h30, if_pos h31]; exact a
    by_cases h32 : x = 32
    · obtain ⟨z9, B1, B2, B3, a, b⟩ := g_storms (ar := ar) h
      refine ⟨z9, B1, B2, B3, ?_, b⟩
      rw [if_neg h0, if_neg h1, if_neg h2, if_neg h3, if_neg h4, if_neg h5, if_neg h6, if_neg h7, if_neg h8, if_neg h9, if_neg h10, if_neg h11, if_neg h12, if_neg h13, if_neg h14, if_neg h15, if_neg h16, if_neg h17, if_neg h18, if_neg h19, if_neg h20, if_neg h21, if_neg h22, if_neg h23, if_neg h24, if_neg h25, if_neg h26, if_neg h27, if_neg h28, if_neg h29, if_neg h30, if_neg h31, if_pos h32]; exact a
    by_cases h33 : x = 33
    · obtain ⟨z9, B1, B2, B3, a, b⟩ := g_game (ar := ar) h
      refine ⟨z9, B1, B2, B3, ?_, b⟩
      rw [if_neg h0, if_neg h1, if_neg h2, if_neg h3, if_neg h4, if_neg h5, if_neg h6, if_neg h7, if_neg h8, if_neg h9, if_neg h10, if_neg h11, if_neg h12, if_neg h13, if_neg h14, if_neg h15, if_neg h16, if_neg h17, if_neg h18, if_neg h19, if_neg h20, if_neg h21, if_neg h22, if_neg h23, if_neg h24, if_neg h25, if_neg h26, if_neg h27, if_neg h28, if_neg h29, if_neg h30, if_neg h31, if_neg h32, if_pos h33]; exact a
    by_cases h34 : x = 34
    · obtain ⟨z9, B1, B2, B3, a, b⟩ := g_years (ar := ar) h
      refine ⟨z9, B1, B2, B3, ?_, b⟩
      rw [if_neg h0, if_neg h1, if_neg h2, if_neg h3, if_neg h4, if_neg h5, if_neg h6, if_neg h7, if_neg h8, if_neg h9, if_neg h10, if_neg h11, if_neg h12, if_neg h13, if_neg h14, if_neg h15, if_neg h16, if_neg h17, if_neg h18, if_neg h19, if_neg h20, if_neg h21, if_neg h22, if_neg h23, if_neg h24, if_neg h25, if_neg h26, if_neg h27, if_neg h28, if_neg h29, if_neg h30, if_neg h31, if_neg h32, if_neg h33, if_pos h34]; exact a
    by_cases h35 : x = 35
    · obtain ⟨z9, B1, B2, B3, a, b⟩ := g_ahead (ar := ar) h
      refine ⟨z9, B1, B2, B3, ?_, b⟩
      rw [if_neg h0, if_neg h1, if_neg h2, if_neg h3, if_neg h4, if_neg h5, if_neg h6, if_neg h7, if_neg h8, if_neg h9, if_neg h10, if_neg h11, if_neg h12, if_neg h13, if_neg h14, if_neg h15, if_neg h16, if_neg h17, if_neg h18, if_neg h19, if_neg h20, if_neg h21, if_neg h22, if_neg h23, if_neg h24, if_neg h25, if_neg h26, if_neg h27, if_neg h28, if_neg h29, if_neg h30, if_neg h31, if_neg h32, if_neg h33, if_neg h34, if_pos h35]; exact a
    by_cases h36 : x = 36
    · obtain ⟨z9, B1, B2, B3, a, b⟩ := g_toJoin (ar := ar) h
      refine ⟨z9, B1, B2, B3, ?_, b⟩
      rw [if_neg h0, if_neg h1, if_neg h2, if_neg h3, if_neg h4, if_neg h5, if_neg h6, if_neg h7, if_neg h8, if_neg h9, if_neg h10, if_neg h11, if_neg h12, if_neg h13, if_neg h14, if_neg h15, if_neg h16, if_neg h17, if_neg h18, if_neg h19, if_neg h20, if_neg h21, if_neg h22, if_neg h23, if_neg h24, if_neg h25, if_neg h26, if_neg h27, if_neg h28, if_neg h29, if_neg h30, if_neg h31, if_neg h32, if_neg h33, if_neg h34, if_neg h35, if_pos h36]; exact a
    by_cases h37 : x = 37
    · obtain ⟨z9, B1, B2, B3, a, b⟩ := g_image (ar := ar) h
      refine ⟨z9, B1, B2, B3, ?_, b⟩
      rw [if_neg h0, if_neg h1, if_neg h2, if_neg h3, if_neg h4, if_neg h5, if_neg h6, if_neg h7, if_neg h8, if_neg h9, if_neg h10, if_neg h11, if_neg h12, if_neg h13, if_neg h14, if_neg h15, if_neg h16, if_neg h17, if_neg h18, if_neg h19, if_neg h20, if_neg h21, if_neg h22, if_neg h23, if_neg h24, if_neg h25, if_neg h26, if_neg h27, if_neg h28, if_neg h29, if_neg h30, if_neg h31, if_neg h32, if_neg h33, if_neg h34, if_neg h35, if_neg h36, if_pos h37]; exact a
    by_cases h38 : x = 38
    · obtain ⟨z9, B1, B2, B3, a, b⟩ := g_restore (ar := ar) h
      refine ⟨z9, B1, B2, B3, ?_, b⟩
      rw [if_neg h0, if_neg h1, if_neg h2, if_neg h3, if_neg h4, if_neg h5, if_neg h6, if_neg h7, if_neg h8, if_neg h9, if_neg h10, if_neg h11, if_neg h12, if_neg h13, if_neg h14, if_neg h15, if_neg h16, if_neg h17, if_neg h18, if_neg h19, if_neg h20, if_neg h21, if_neg h22, if_neg h23, if_neg h24, if_neg h25, if_neg h26, if_neg h27, if_neg h28, if_neg h29, if_neg h30, if_neg h31, if_neg h32, if_neg h33, if_neg h34, if_neg h35, if_neg h36, if_neg h37, if_pos h38]; exact a
    refine ⟨z, nf1 z, nf2 z, nf3 z, ?_, ⟨V, E, F, S, A, IB, I, T, k, h⟩, ⟨Nat.le_refl _, rfl⟩, ⟨Nat.le_refl _, rfl⟩, ⟨Nat.le_refl _, rfl⟩⟩
    rw [if_neg h0, if_neg h1, if_neg h2, if_neg h3, if_neg h4, if_neg h5, if_neg h6, if_neg h7, if_neg h8, if_neg h9, if_neg h10, if_neg h11, if_neg h12, if_neg h13, if_neg h14, if_neg h15, if_neg h16, if_neg h17, if_neg h18, if_neg h19, if_neg h20, if_neg h21, if_neg h22, if_neg h23, if_neg h24, if_neg h25, if_neg h26, if_neg h27, if_neg h28, if_neg h29, if_neg h30, if_neg h31, if_neg h32, if_neg h33, if_neg h34, if_neg h35, if_neg h36, if_neg h37, if_neg h38]
  · obtain ⟨_, ⟨N, wc⟩, kx, _, _⟩ := h
    obtain ⟨n1, n2, n3⟩ := wc.n
    obtain ⟨_, _, g, hg, _⟩ := kx.2.2.1
    obtain ⟨g3, hg3⟩ := kx.2.2.2.1
    exact ⟨by show z.1.2.2.2.1.1 ≤ 201; omega, hg.1, hg3.1⟩
def V0e : VT := mkV 0 0 0 (fun _ => 0) (fun _ => 0) (fun _ => 0) (fun _ => 0) (fun _ => 0) (fun _ => 0) (fun _ => 0)
theorem no_lt {P : Nat → Prop} : ∀ k, k < 0 → P k := fun k hk => absurd hk (Nat.not_lt_zero _)
theorem WF_0 : WFV V0e := ⟨⟨⟨Nat.zero_le _, Nat.zero_le _, Nat.zero_le _⟩, fun p hp => absurd hp (Nat.not_lt_zero _), fun p q hp => absurd hp (Nat.not_lt_zero _), fun p hp => absurd hp (Nat.not_lt_zero _)⟩, fun p hp => absurd hp (Nat.not_lt_zero _)⟩
theorem VC_0 {v : Ob} (h0 : v.1 0 = 0) (h1 : v.1 1 = 0) (h2 : v.1 2 = 0) : VC v V0e := ⟨⟨h0, h1, h2⟩, fun p hp => absurd hp (Nat.not_lt_zero _), fun p hp => absurd hp (Nat.not_lt_zero _)⟩
theorem ACg_0 : ACg fa0 (fun i => i) := ⟨Nat.zero_le _, fun i => (if_neg (Nat.not_lt_zero i)).symm, fun i hi => absurd hi (Nat.not_lt_zero _), fun i j hi => absurd hi (Nat.not_lt_zero _)⟩
theorem inv_0 : Inv z0 := by
  refine ⟨V0e, ((false, fun _ => 0, 0), (false, fun _ => 0, 0)), (0, fun _ => 0, fun _ => 0), (0, fun _ => 0, fun _ => 0, fun _ => 0), (0, fun _ => V0e), false, (V0e, (0, fun _ => V0e), (0, fun _ => 0, fun _ => 0, fun _ => 0)), (fun _ => 0), 0, ?_, ⟨1, ?_⟩, ?_, ?_, ?_⟩
  · exact ⟨⟨WF_0, Nat.zero_le _, (fun e => by cases e), (fun e => by cases e)⟩, ⟨Nat.zero_le _, fun p hp => absurd hp (Nat.not_lt_zero _)⟩, ⟨Nat.zero_le _, fun p hp => absurd hp (Nat.not_lt_zero _)⟩, ⟨Nat.zero_le _, fun p hp => absurd hp (Nat.not_lt_zero _)⟩, (fun e => by cases e)⟩
  · refine ⟨⟨0, ⟨rfl, by omega, by omega, by omega⟩, fun i => ?_, rfl, fun i hi => ?_, fun i i1 i2 => absurd i1 (by omega)⟩, ⟨rfl, (fun e => by cases e)⟩, ⟨rfl, (fun e => by cases e)⟩⟩
    · show pi1 i = if i < 1 then some i else none
      unfold pi1 upO
      by_cases c : i = 0
      · subst c; rfl
      · rw [if_neg c, if_neg (show ¬ i < 1 by omega)]
    · have e : i = 0 := by omega
      subst e
      exact VC_0 rfl rfl rfl
  · exact ⟨⟨rfl, fun p hp => absurd hp (Nat.not_lt_zero _)⟩, ⟨rfl, fun p hp => absurd hp (Nat.not_lt_zero _)⟩, ⟨rfl, Nat.zero_le _, fun i => i, ACg_0, fun p hp => absurd hp (Nat.not_lt_zero _)⟩, ⟨fun i => i, ACg_0⟩, (fun e => by cases e)⟩
  · exact ⟨⟨rfl, ⟨rfl, rfl⟩, fun p hp => absurd hp (Nat.not_lt_zero _), fun p hp => absurd hp (Nat.not_lt_zero _)⟩, ⟨⟨fun _ => rfl, (fun e => by cases e)⟩, ⟨fun _ => rfl, (fun e => by cases e)⟩, rfl, rfl⟩, ⟨rfl, fun p hp => absurd hp (Nat.not_lt_zero _)⟩, ⟨rfl, fun p hp => absurd hp (Nat.not_lt_zero _)⟩, ⟨rfl, fun p hp => absurd hp (Nat.not_lt_zero _)⟩, (fun e => by cases e)⟩
  · exact ⟨⟨rfl, rfl, Nat.zero_le _⟩, fun p hp => absurd hp (Nat.not_lt_zero _), rfl, fun _ _ => rfl, rfl, rfl⟩
