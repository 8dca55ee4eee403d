def tmS (i : Nat) : Term := .string (ownS.getD i ("", 0, "")).1 (ownS.getD i ("", 0, "")).2.1
def flN : List Cond := flatC (Jvm.Cond.and given_1 narrow_1)
def wStr (i : Nat) : List Cond := [.exactly (tmS i) "java/lang/String", .eq (.field (tmS i) "java/lang/String" "coder" "B") (.int 0), .arrayOf (.field (tmS i) "java/lang/String" "value" "[B") .byte, .eq (.length (.field (tmS i) "java/lang/String" "value" "[B")) (.int (Int32.ofNat (lenS.getD i 0)))] ++ (List.range (lenS.getD i 0)).map (fun j => .eq (.elem (.field (tmS i) "java/lang/String" "value" "[B") (.int (Int32.ofNat j))) (.int ((bytS.getD i []).getD j 0)))
theorem st_seg : flN.drop 39 = (List.range 26).flatMap wStr := by decide +kernel
theorem tb_t1 {w : Cond} (i : Nat) (h9 : tables_1_1[i]? = some w) : w ∈ lw_tbl := by
  have h := List.mem_of_getElem? h9
  exact List.mem_append_right _ (show w ∈ tables_1 from List.mem_append_left _ h)
theorem tb_t2 {w : Cond} (i : Nat) (h9 : tables_1_2[i]? = some w) : w ∈ lw_tbl := by
  have h := List.mem_of_getElem? h9
  exact List.mem_append_right _ (show w ∈ tables_1 from List.mem_append_right _ (List.mem_append_left _ h))
theorem tb_t3 {w : Cond} (i : Nat) (h9 : tables_1_3[i]? = some w) : w ∈ lw_tbl := by
  have h := List.mem_of_getElem? h9
  exact List.mem_append_right _ (show w ∈ tables_1 from List.mem_append_right _ (List.mem_append_right _ (List.mem_append_left _ h)))
theorem tb_t4 {w : Cond} (i : Nat) (h9 : tables_1_4[i]? = some w) : w ∈ lw_tbl := by
  have h := List.mem_of_getElem? h9
  exact List.mem_append_right _ (show w ∈ tables_1 from List.mem_append_right _ (List.mem_append_right _ (List.mem_append_right _ (List.mem_append_left _ h))))
theorem tb_t5 {w : Cond} (i : Nat) (h9 : tables_1_5[i]? = some w) : w ∈ lw_tbl := by
  have h := List.mem_of_getElem? h9
  exact List.mem_append_right _ (show w ∈ tables_1 from List.mem_append_right _ (List.mem_append_right _ (List.mem_append_right _ (List.mem_append_right _ (List.mem_append_left _ h)))))
theorem tb_t6 {w : Cond} (i : Nat) (h9 : tables_1_6[i]? = some w) : w ∈ lw_tbl := by
  have h := List.mem_of_getElem? h9
  exact List.mem_append_right _ (show w ∈ tables_1 from List.mem_append_right _ (List.mem_append_right _ (List.mem_append_right _ (List.mem_append_right _ (List.mem_append_right _ (List.mem_append_left _ h))))))
theorem tb_t7 {w : Cond} (i : Nat) (h9 : tables_1_7[i]? = some w) : w ∈ lw_tbl := by
  have h := List.mem_of_getElem? h9
  exact List.mem_append_right _ (show w ∈ tables_1 from List.mem_append_right _ (List.mem_append_right _ (List.mem_append_right _ (List.mem_append_right _ (List.mem_append_right _ (List.mem_append_right _ (List.mem_append_left _ h)))))))
theorem tb_t8 {w : Cond} (i : Nat) (h9 : tables_1_8[i]? = some w) : w ∈ lw_tbl := by
  have h := List.mem_of_getElem? h9
  exact List.mem_append_right _ (show w ∈ tables_1 from List.mem_append_right _ (List.mem_append_right _ (List.mem_append_right _ (List.mem_append_right _ (List.mem_append_right _ (List.mem_append_right _ (List.mem_append_right _ (List.mem_append_left _ h))))))))
theorem tb_t9 {w : Cond} (i : Nat) (h9 : tables_1_9[i]? = some w) : w ∈ lw_tbl := by
  have h := List.mem_of_getElem? h9
  exact List.mem_append_right _ (show w ∈ tables_1 from List.mem_append_right _ (List.mem_append_right _ (List.mem_append_right _ (List.mem_append_right _ (List.mem_append_right _ (List.mem_append_right _ (List.mem_append_right _ (List.mem_append_right _ (h)))))))))
theorem ot_0 : (.laysStatic "java/lang/String" "COMPACT_STRINGS" "Z" : Cond) ∈ lw_tbl := tb_t4 4 (by decide +kernel)
theorem ot_1 : (.initialized "java/lang/String" : Cond) ∈ lw_tbl := tb_t1 19 (by decide +kernel)
theorem ot_2 : (.laysStatic "jdk/internal/util/Preconditions" "SIOOBE_FORMATTER" "Ljava/util/function/BiFunction;" : Cond) ∈ lw_tbl := tb_t4 45 (by decide +kernel)
theorem ot_3 : (.initialized "jdk/internal/util/Preconditions" : Cond) ∈ lw_tbl := tb_t1 22 (by decide +kernel)
theorem ot_4 : (.laysStatic Bundle.tN "UNASSIGNED_STACK" Bundle.steD : Cond) ∈ lw_tbl := tb_t3 166 (by decide +kernel)
theorem ot_5 : (.laysStatic Bundle.tN "SUPPRESSED_SENTINEL" Bundle.listD : Cond) ∈ lw_tbl := tb_t3 168 (by decide +kernel)
theorem ot_6 : (.initialized Bundle.tN : Cond) ∈ lw_tbl := tb_t1 14 (by decide +kernel)
theorem ot_7 : (.arrayOver (.object "NewHouses$Village") : Cond) ∈ lw_tbl := tb_t1 235 (by decide +kernel)
theorem ot_8 : (.arrayClass .int : Cond) ∈ lw_tbl := tb_t1 117 (by decide +kernel)
theorem ot_9 : (.arrayClass .long : Cond) ∈ lw_tbl := tb_t2 9 (by decide +kernel)
theorem ot_10 : (.arrayClass .byte : Cond) ∈ lw_tbl := tb_t1 116 (by decide +kernel)
theorem ot_11 : (.arrayClass .boolean : Cond) ∈ lw_tbl := tb_t7 187 (by decide +kernel)
theorem sr_0 : Cond.stringRef "NewHouses" 110 "the tape has not so many bytes" ∈ lw_tbl := tb_t3 179 (by decide +kernel)
theorem sr_1 : Cond.stringRef "NewHouses$Reader" 89 ";()+-*/<=" ∈ lw_tbl := tb_t3 230 (by decide +kernel)
theorem sr_2 : Cond.stringRef "NewHouses$Reader" 103 "person" ∈ lw_tbl := tb_t4 79 (by decide +kernel)
theorem sr_3 : Cond.stringRef "NewHouses$Reader" 112 "house" ∈ lw_tbl := tb_t4 117 (by decide +kernel)
theorem sr_4 : Cond.stringRef "NewHouses$Reader" 117 "friends" ∈ lw_tbl := tb_t4 132 (by decide +kernel)
theorem sr_5 : Cond.stringRef "NewHouses$Reader" 121 "picks" ∈ lw_tbl := tb_t4 145 (by decide +kernel)
theorem sr_6 : Cond.stringRef "NewHouses$Reader" 179 "not" ∈ lw_tbl := tb_t4 162 (by decide +kernel)
theorem sr_7 : Cond.stringRef "NewHouses$Reader" 193 "size" ∈ lw_tbl := tb_t4 183 (by decide +kernel)
theorem sr_8 : Cond.stringRef "NewHouses$Reader" 195 "evening" ∈ lw_tbl := tb_t4 184 (by decide +kernel)
theorem sr_9 : Cond.stringRef "NewHouses$Reader" 197 "rank" ∈ lw_tbl := tb_t4 185 (by decide +kernel)
theorem sr_10 : Cond.stringRef "NewHouses$Reader" 199 "place" ∈ lw_tbl := tb_t4 186 (by decide +kernel)
theorem sr_11 : Cond.stringRef "NewHouses$Reader" 201 "since" ∈ lw_tbl := tb_t4 187 (by decide +kernel)
theorem sr_12 : Cond.stringRef "NewHouses$Reader" 203 "moves" ∈ lw_tbl := tb_t4 188 (by decide +kernel)
theorem sr_13 : Cond.stringRef "NewHouses$Reader" 205 "ranks" ∈ lw_tbl := tb_t4 189 (by decide +kernel)
theorem sr_14 : Cond.stringRef "NewHouses$Reader" 207 "old" ∈ lw_tbl := tb_t4 190 (by decide +kernel)
theorem sr_15 : Cond.stringRef "NewHouses$Reader" 177 "and" ∈ lw_tbl := tb_t4 191 (by decide +kernel)
theorem sr_16 : Cond.stringRef "NewHouses$Reader" 170 "or" ∈ lw_tbl := tb_t4 192 (by decide +kernel)
theorem sr_17 : Cond.stringRef "NewHouses$Reader" 126 "keeps" ∈ lw_tbl := tb_t4 193 (by decide +kernel)
theorem sr_18 : Cond.stringRef "NewHouses" 190 "no such count" ∈ lw_tbl := tb_t5 33 (by decide +kernel)
theorem sr_19 : Cond.stringRef "NewHouses" 398 "no such person" ∈ lw_tbl := tb_t5 51 (by decide +kernel)
theorem sr_20 : Cond.stringRef "NewHouses" 223 "no such thing of a person" ∈ lw_tbl := tb_t5 79 (by decide +kernel)
theorem sr_21 : Cond.stringRef "NewHouses" 400 "no such house" ∈ lw_tbl := tb_t5 91 (by decide +kernel)
theorem sr_22 : Cond.stringRef "NewHouses" 244 "no such thing of a house" ∈ lw_tbl := tb_t5 102 (by decide +kernel)
theorem sr_23 : Cond.stringRef "NewHouses" 402 "no such thing to ask" ∈ lw_tbl := tb_t5 157 (by decide +kernel)
theorem sr_24 : Cond.stringRef "NewHouses" 404 "a number is out of its bounds" ∈ lw_tbl := tb_t5 161 (by decide +kernel)
theorem sr_25 : Cond.stringRef "NewHouses" 362 "a game is of two" ∈ lw_tbl := tb_t6 172 (by decide +kernel)
theorem st_rf (i : Nat) (hi : i < 26) : Cond.stringRef (ownS.getD i ("", 0, "")).1 (ownS.getD i ("", 0, "")).2.1 (ownS.getD i ("", 0, "")).2.2 ∈ lw_tbl := by
  match i, hi with
  | 0, _ => exact sr_0
  | 1, _ => exact sr_1
  | 2, _ => exact sr_2
  | 3, _ => exact sr_3
  | 4, _ => exact sr_4
  | 5, _ => exact sr_5
  | 6, _ => exact sr_6
  | 7, _ => exact sr_7
  | 8, _ => exact sr_8
  | 9, _ => exact sr_9
  | 10, _ => exact sr_10
  | 11, _ => exact sr_11
  | 12, _ => exact sr_12
  | 13, _ => exact sr_13
  | 14, _ => exact sr_14
  | 15, _ => exact sr_15
  | 16, _ => exact sr_16
  | 17, _ => exact sr_17
  | 18, _ => exact sr_18
  | 19, _ => exact sr_19
  | 20, _ => exact sr_20
  | 21, _ => exact sr_21
  | 22, _ => exact sr_22
  | 23, _ => exact sr_23
  | 24, _ => exact sr_24
  | 25, _ => exact sr_25
  | i + 26, hi => exact absurd hi (by omega)
theorem st_df : (List.range 26).all (fun i => (List.range 26).all (fun j => decide (i = j) || (decide (¬ Int32.ofNat (lenS.getD i 0) = Int32.ofNat (lenS.getD j 0)) || (List.range (lenS.getD i 0)).any (fun t => decide (t < lenS.getD j 0) && decide (¬ (bytS.getD i []).getD t 0 = (bytS.getD j []).getD t 0))))) = true := by decide +kernel
theorem st_len : (List.range 26).all (fun i => decide (lenS.getD i 0 < 2 ^ 31)) = true := by decide +kernel
theorem st_of_all {α : Type} {L : List α} {p : α → Bool} (h : L.all p = true) (i : Nat) {x : α} (hi : L[i]? = some x) : p x = true := List.all_eq_true.mp h x (List.mem_of_getElem? hi)
theorem st_rg {n i : Nat} {p : Nat → Bool} (h : (List.range n).all p = true) (hi : i < n) : p i = true := List.all_eq_true.mp h i (List.mem_range.mpr hi)
theorem amx_start {s : State} {args : Array Value} (hts : ∀ w ∈ lw_tbl, w.before args s = true) (hgv : (Jvm.Cond.and given_1 narrow_1).before args s = true) : ∃ aK aV : Nat → Nat, AMX aK aV (AL s) s s.heap := by
  have hs : ∀ c ∈ flN, c.before args s = true := flat_of_before _ hgv
  have hA : ∀ a : Nat, a < s.heap.size → ¬ AL s a := fun a h => Nat.not_le.mpr h
  have hn : ∀ (i : Nat) {w : Cond}, flN[i]? = some w → w.before args s = true := fun i w hi => hs w (List.mem_of_getElem? hi)
  have hw : ∀ i, i < 26 → ∀ w ∈ wStr i, w.before args s = true := fun i hi w hm => hs w (List.mem_of_mem_drop (i := 39) (by rw [st_seg]; exact List.mem_flatMap.mpr ⟨i, List.mem_range.mpr hi, hm⟩))
  have h2 : ∀ i : Nat, ∃ q : Nat × Nat, i < 26 → (tmS i).eval args s none [] s = some (.ref q.1) ∧ (va_O "java/lang/String" q.1 (AL s) s s.heap ∧ va_OF "java/lang/String" "coder" "B" (.int 0) q.1 (AL s) s s.heap ∧ va_OF "java/lang/String" "value" "[B" (.ref q.2) q.1 (AL s) s s.heap ∧ va_T .byte q.2 (lenS.getD i 0) (fun j => .int ((bytS.getD i []).getD j 0)) (AL s) s s.heap) := by
    intro i
    by_cases hi : i < 26
    · obtain ⟨adK, adV, hS, hev⟩ := vk_Sof (args := args) (s := s) (N := 1) (tm := fun _ => tmS i) (len := [lenS.getD i 0]) (byt := [bytS.getD i []]) (A := AL s)
        (fun j hj => by
          have e9 : j = 0 := by omega
          subst e9
          exact of_decide_eq_true (st_rg st_len hi))
        (fun j hj => hw i hi _ (List.mem_append_left _ (List.mem_of_getElem? (i := 0) rfl)))
        (fun j hj => hw i hi _ (List.mem_append_left _ (List.mem_of_getElem? (i := 1) rfl)))
        (fun j hj => hw i hi _ (List.mem_append_left _ (List.mem_of_getElem? (i := 2) rfl)))
        (fun j hj => by
          have e9 : j = 0 := by omega
          subst e9
          exact hw i hi _ (List.mem_append_left _ (List.mem_of_getElem? (i := 3) rfl)))
        (fun j hj t h9 => by
          have e9 : j = 0 := by omega
          subst e9
          exact hw i hi _ (List.mem_append_right _ (List.mem_map.mpr ⟨t, List.mem_range.mpr h9, rfl⟩)))
        (fun a b ha hb hab => absurd (show a = b by omega) hab) hA
      exact ⟨(adK 0, adV 0), fun _ => ⟨hev 0 (by omega), hS.1 0 (by omega)⟩⟩
    · exact ⟨(0, 0), fun h => absurd h hi⟩
  obtain ⟨f, hf⟩ := Classical.axiomOfChoice h2
  refine ⟨fun i => (f i).1, fun i => (f i).2, ⟨⟨fun i hi => (hf i hi).2, fun i j hi hj he => ?_⟩, fun i q hq => ?_, ?_, ?_, ?_, ?_⟩, ?_, ?_⟩
  · obtain ⟨-, -, ⟨cf, k9, ix, fd, cell, a1, a2, a3, a4, a5, a6⟩, ⟨ce, b1, b2, b3, b4, b5, b6, b7⟩⟩ := (hf i hi).2
    obtain ⟨-, -, ⟨cf', k9', ix', fd', cell', a1', a2', a3', a4', a5', a6'⟩, ⟨ce', b1', b2', b3', b4', b5', b6', b7'⟩⟩ := (hf j hj).2
    have he' : (f i).1 = (f j).1 := he
    rw [a1] at a1'
    cases a1'
    rw [he', a3'] at a3
    cases a3
    rw [a5] at a5'
    have e2 : (f i).2 = (f j).2 := by
      injection (Option.some.inj a5')
    rw [e2, b1'] at b1
    cases b1
    have h9 := st_rg (st_rg st_df hi) hj
    simp only [Bool.or_eq_true, decide_eq_true_eq] at h9
    rcases h9 with h9 | h9 | h9
    · exact h9
    · exact absurd (b5.symm.trans b5') h9
    · obtain ⟨t, ht1, ht2⟩ := List.any_eq_true.mp h9
      simp only [Bool.and_eq_true, decide_eq_true_eq] at ht2
      have c1 := b6 t (List.mem_range.mp ht1)
      have c2 := b6' t ht2.1
      rw [c1] at c2
      exact absurd (Value.int.inj (Option.some.inj c2)) ht2.2
  · have hi : i < 26 := (List.getElem?_eq_some_iff.mp hq).1
    have hg : ownS.getD i ("", 0, "") = q := by rw [List.getD_eq_getElem?_getD, hq]; rfl
    have h8 := hts _ (st_rf i hi)
    have h7 := (hf i hi).1
    unfold tmS at h7
    rw [hg] at h8 h7
    exact vk_R.of h8 h7
  · obtain ⟨w, e1, e2⟩ := Cond.eq_one (show (Cond.eq (.static "java/lang/String" "COMPACT_STRINGS" "Z") (.int 1)).holds args s none s [] = true from hn 6 (by decide +kernel))
    cases e2
    exact va_Zof (hts _ ot_0) (hts _ ot_1) e1 hA
  · exact va_Zqof (hts _ ot_2) (hts _ ot_3) (hn 7 (by decide +kernel)) hA
  · exact vx_Zqof (hts _ ot_4) (hts _ ot_6) (hn 4 (by decide +kernel)) hA
  · exact vx_Zqof (hts _ ot_5) (hts _ ot_6) (hn 5 (by decide +kernel)) hA
  · exact fun w hw h1 h2 => va_tabs h1 rfl (hts w hw)
  · exact va_Nc.of (hn 38 (by decide +kernel))
theorem st_arr {s : State} {args : Array Value} {ty : FieldType} (hp : ∀ C9, ty ≠ .object C9) (h : (Cond.arrayClass ty).before args s = true) : ∃ cA : ClassId, ArrOfT s cA ty ∧ va_RA s cA ty := by
  obtain ⟨cA, k, comp, h1, h2, h3⟩ := Cond.arrayClass_spec h
  refine ⟨cA, fun n z => ⟨fun k h => (by cases h), k, h2, comp, h3⟩, ?_⟩
  cases ty <;> first | exact h1 | exact absurd rfl (hp _)
theorem st_arrO {s : State} {args : Array Value} {C9 : String} (h : (Cond.arrayOver (.object C9)).before args s = true) : ∃ cA : ClassId, ArrOfT s cA (.object C9) ∧ va_RA s cA (.object C9) := by
  obtain ⟨comp, cA, k, h1, h2, h3, h4, h5⟩ := Cond.arrayOver_spec h
  exact ⟨cA, fun n z => ⟨fun k h => (by cases h), k, h3, comp, h4⟩, k, comp, h3, h4, h1, h5⟩
theorem st_K {s : State} {args : Array Value} (hts : ∀ w ∈ lw_tbl, w.before args s = true) : ∃ (D : va_G) (dT : Nat → ClassId), va_K D vwCl (tyL dT) s := by
  have hg : ∀ w ∈ lw_good, w.before args s = true := fun w hw => hts w (List.mem_filter.mp hw).1
  obtain ⟨c0, i0, k0⟩ := u_known (C := RX0) (T := TX0) (N := 2) (n := 2) hg iX0 (hg _ q273)
  obtain ⟨c1, i1, k1⟩ := u_known (C := RX1) (T := TX1) (N := 7) (n := 7) hg iX1 (hg _ q229)
  obtain ⟨c2, i2, k2⟩ := u_known (C := RX2) (T := TX2) (N := 6) (n := 6) hg iX2 (hg _ q198)
  obtain ⟨c3, i3, k3⟩ := u_known (C := RX3) (T := TX3) (N := 3) (n := 3) hg iX3 (hg _ q119)
  obtain ⟨c4, i4, k4⟩ := u_known (C := RX4) (T := TX4) (N := 2) (n := 2) hg iX4 (hg _ q237)
  obtain ⟨c5, i5, k5⟩ := u_known (C := RX5) (T := TX5) (N := 1) (n := 1) hg iX5 (hg _ q308)
  obtain ⟨c6, i6, k6⟩ := u_known (C := RX6) (T := TX6) (N := 11) (n := 11) hg iX6 (hg _ q37)
  obtain ⟨c7, i7, k7⟩ := u_known (C := RX7) (T := TX7) (N := 4) (n := 4) hg iX7 (hg _ q137)
  obtain ⟨c8, i8, k8⟩ := u_known (C := RX8) (T := TX8) (N := 4) (n := 4) hg iX8 (hg _ q288)
  obtain ⟨c9, i9, k9⟩ := u_known (C := RX9) (T := TX9) (N := 9) (n := 9) hg iX9 (hg _ q318)
  obtain ⟨c10, i10, k10⟩ := u_known (C := RX10) (T := TX10) (N := 10) (n := 10) hg iX10 (hg _ q43)
  obtain ⟨c11, i11, k11⟩ := u_known (C := RX11) (T := TX11) (N := 17) (n := 17) hg iX11 (hg _ q29)
  obtain ⟨c12, i12, k12⟩ := u_known (C := RX12) (T := TX12) (N := 59) (n := 59) hg iX12 (hg _ q1444)
  obtain ⟨t4, g4⟩ := st_arrO (hts _ ot_7)
  obtain ⟨t0, g0⟩ := st_arr (fun _ h => by cases h) (hts _ ot_8)
  obtain ⟨t1, g1⟩ := st_arr (fun _ h => by cases h) (hts _ ot_9)
  obtain ⟨t2, g2⟩ := st_arr (fun _ h => by cases h) (hts _ ot_10)
  obtain ⟨t3, g3⟩ := st_arr (fun _ h => by cases h) (hts _ ot_11)
  refine ⟨((fun k => match k with | 0 => c0 | 1 => c1 | 2 => c2 | 3 => c3 | 4 => c4 | 5 => c5 | 6 => c6 | 7 => c7 | 8 => c8 | 9 => c9 | 10 => c10 | 11 => c11 | _ => c12), (fun k => match k with | 0 => i0 | 1 => i1 | 2 => i2 | 3 => i3 | 4 => i4 | 5 => i5 | 6 => i6 | 7 => i7 | 8 => i8 | 9 => i9 | 10 => i10 | 11 => i11 | _ => i12)), (fun k => match k with | 0 => t0 | 1 => t1 | 2 => t2 | 3 => t3 | _ => t4), fun k q hq => ?_, fun k q hq => ?_⟩
  · match k, hq with
    | 0, hq => cases hq; exact k0
    | 1, hq => cases hq; exact k1
    | 2, hq => cases hq; exact k2
    | 3, hq => cases hq; exact k3
    | 4, hq => cases hq; exact k4
    | 5, hq => cases hq; exact k5
    | 6, hq => cases hq; exact k6
    | 7, hq => cases hq; exact k7
    | 8, hq => cases hq; exact k8
    | 9, hq => cases hq; exact k9
    | 10, hq => cases hq; exact k10
    | 11, hq => cases hq; exact k11
    | 12, hq => cases hq; exact k12
    | k + 13, hq => simp at hq
  · match k, hq with
    | 0, hq => cases hq; exact g0
    | 1, hq => cases hq; exact g1
    | 2, hq => cases hq; exact g2
    | 3, hq => cases hq; exact g3
    | 4, hq => cases hq; exact g4
    | k + 5, hq => simp [tyL] at hq
theorem ki_L_104 : KI R_law 104 yX11_init cX11_init 1 0 := KI.mk q30 q31 q1 q32 ⟨by decide, by decide, by decide +kernel⟩
theorem ki_L_107 : KI R_law 107 yX12_init cX12_init 1 0 := KI.mk q1445 q1446 q13 q1447 ⟨by decide, by decide, by decide +kernel⟩
def z0 : LZ := (((x0, (fun _ => 0), zC, fa1, fa0, fa0) : XS), (((fun k => if k = 10 then (-1) else if k = 4 then (-1) else if k = 3 then (-1) else 0), 0, fun _ _ => 0) : MS), fun _ => 0)
set_option maxRecDepth 40000 in
set_option maxHeartbeats 2000000 in
theorem startI {p : Program} {e : Env} {s : State} {m : MethodId} {below : List Frame} {meth : Method} {c : Code} {Inv : LZ → Prop} (hG : GOODI Inv) (hI : Inv z0) (l : Launch) (hflags : l.flags = flags0) {b L : Nat} {xs : Nat → Int32} (hL : L ≤ 3072) (C0 : lw_At p s m meth c b L xs) : W p l e room_1 s m #[Value.ref b] below meth c s.heap [] 0 0 (lw_Z below #[Value.ref b] s) (entryFrame m ([Value.ref b] : List Value).toArray 7) := by
  obtain ⟨hx, hb, hr, hml, hown, hts, hX, hbl, hlocks, hgv⟩ := id C0
  have hl : l.stackTraces = false := by unfold Launch.stackTraces; rw [hflags]; decide +kernel
  obtain ⟨aK, aV, E⟩ := amx_start hts hgv
  obtain ⟨D, dT, hK⟩ := st_K hts
  have O : VO s := va_AO.of (hts _ ot_7)
  have C : Cx p s m #[.ref b] meth c code 7 R_law ret D (AL s) dT := ⟨hx, hb, hml, hown, fun w hw => hts w (List.mem_filter.mp hw).1, hK, fun _ h => h, hr, hlocks⟩
  have hl0 := lv_entry ([.ref b]) (n := 7) (Nat.le_of_ble_eq_true rfl)
  rw [lg_entry_eq]
  generalize (lg_sl ([.ref b]) ++ List.replicate (7 - (lg_sl ([.ref b])).length) Slot.unset).toArray = ls at hl0 ⊢
  have hl1 : lv_has ls 7 [(0, .ref b)] := hl0
  have G : WA p l e room_1 s m #[.ref b] below meth c (lw_Z below #[.ref b] s) D (AL s) 0 0 7 0 [] [(0, .ref b)] [] := by
    refine wa_new (ci := 11) (fs := [.null, .int 0, .int 0, .null, .null, .null, .null, .null, .null, .null, .null, .null, .null, .int 0, .null, .null, .null]) C 3 tyX11 dL_law_0 rfl iX11 tyX11_ok q28 q29 q1 rfl (by decide +kernel) (Nat.le_of_ble_eq_true rfl) (Nat.le_of_ble_eq_true rfl) (fun wq1 => ?_)
    refine wa_ws (ws' := [[(wq1, .inr (11, [.null, .int 0, .int 0, .null, .null, .null, .null, .null, .null, .null, .null, .null, .null, .int 0, .null, .null, .null]))]]) rfl ?_
    refine wa_dup C 4 dL_law_3 rfl rfl ?_
    refine wa_callIa (As := []) C O 7 dL_law_4 rfl ki_L_104 rfl (c_X11_init) ⟨rfl, rfl⟩ ⟨Nat.le_of_ble_eq_true rfl, Nat.le_of_ble_eq_true rfl⟩ [0] [] rfl rfl rfl rfl (by decide) rfl rfl ⟨Nat.le_of_ble_eq_true rfl, Nat.le_of_ble_eq_true rfl⟩ (Nat.le_of_ble_eq_true rfl) (fun u hu => ?_)
    try dsimp only at hu
    subst hu
    refine wa_ws (ws' := wX dT u (fun _ => u 13) (fun _ _ => 0) (fun _ _ => 0) x0 (fun _ => 0) zC fa1 fa0 fa0) rfl ?_
    refine wa_astore_n (lv' := [(0, .ref b), (1, .ref (u 0 0))]) C [1, 0] 8 dL_law_7 rfl (Nat.le_of_ble_eq_true rfl) rfl ?_
    refine wa_new (ci := 12) (fs := [.int 0, .int 0, .int 0, .int 0, .int 0, .null, .null, .null, .int 0, .int 0, .int 0, .null, .int 0, .int 0, .int 0, .int 0, .int 0, .int 0, .int 0, .long 0, .int 0, .int 0, .int 0, .int 0, .int 0, .int 0, .int 0, .int 0, .int 0, .null, .null, .null, .null, .null, .null, .null, .int 0, .null, .null, .int 0, .int 0, .int 0, .null, .null, .null, .null, .null, .null, .int 0, .null, .null, .null, .int 0, .int 0, .int 0, .int 0, .null, .null, .null]) C 11 tyX12 dL_law_8 rfl iX12 tyX12_ok q1443 q1444 q13 rfl (by decide +kernel) (Nat.le_of_ble_eq_true rfl) (Nat.le_of_ble_eq_true rfl) (fun wq2 => ?_)
    refine wa_dup C 12 dL_law_11 rfl rfl ?_
    refine wa_callI (As := []) C 15 dL_law_12 rfl ki_L_107 rfl (c_X12_init) ⟨rfl, rfl⟩ ⟨Nat.le_of_ble_eq_true rfl, Nat.le_of_ble_eq_true rfl⟩ [25] (List.range 25) rfl rfl rfl rfl (by decide) rfl rfl ⟨Nat.le_of_ble_eq_true rfl, Nat.le_of_ble_eq_true rfl⟩ (Nat.le_of_ble_eq_true rfl) (fun aM hu => ?_)
    try dsimp only at hu
    subst hu
    refine wa_ws (ws' := wX dT u (fun _ => u 13) (fun _ _ => 0) (fun _ _ => 0) x0 (fun _ => 0) zC fa1 fa0 fa0 ++ [wM dT aM (((fun k => if k = 10 then (-1) else if k = 4 then (-1) else if k = 3 then (-1) else 0), 0, fun _ _ => 0) : MS)]) rfl ?_
    refine wa_astore_n (lv' := [(0, .ref b), (1, .ref (u 0 0)), (2, .ref (aM 0))]) C [1, 2, 0] 16 dL_law_15 rfl (Nat.le_of_ble_eq_true rfl) rfl ?_
    refine wa_iconst (v := 1) C 17 dL_law_16 rfl rfl ?_
    refine wa_newa (atype := .long) (ty := .long) (a0 := (1, .inr (.inl (fun _ => (0 : Int64))))) C 19 1 dL_law_17 rfl q249 rfl (fun _ h => by cases h) rfl (fun _ => rfl) (by decide) (by decide) (Nat.le_of_ble_eq_true rfl) (Nat.le_of_ble_eq_true rfl) (Nat.le_of_ble_eq_true rfl) (fun bo => ?_)
    refine wa_astore_n (lv' := [(0, .ref b), (1, .ref (u 0 0)), (2, .ref (aM 0)), (3, .ref bo)]) C [1, 2, 3, 0] 20 dL_law_19 rfl (Nat.le_of_ble_eq_true rfl) rfl ?_
    refine wa_iconst (v := 0) C 21 dL_law_20 rfl rfl ?_
    refine wa_istore (lv' := [(0, .ref b), (1, .ref (u 0 0)), (2, .ref (aM 0)), (3, .ref bo), (4, .int 0)]) C [1, 2, 3, 4, 0] 23 dL_law_21 rfl (Nat.le_of_ble_eq_true rfl) rfl ?_
    refine wa_ws (ws' := wL dT u (fun _ => u 13) (fun _ _ => 0) (fun _ _ => 0) aM bo z0) rfl ?_
    refine wa_widen (k := 115) (n := 24426) (Nat.le_of_ble_eq_true rfl) (Nat.le_of_ble_eq_true rfl) ?_
    exact law_loop hG hl C E hX hbl hL 513 0 0 z0 u _ _ _ 115 24426 hI nI_0.symm (Nat.zero_le _) (by omega) (Nat.le_of_ble_eq_true rfl) (Nat.le_of_ble_eq_true rfl)
  exact G s.heap [] ls (fun k q h => by simp at h) ⟨fun i j p q h => by simp at h, fun k q h => by simp at h⟩ va_S.rf hl1
