theorem ki_X0_21 : KI RX0 21 yX10_init cX10_init 1 0 := KI.mk q441 q45 q3 q46 ⟨by decide, by decide, by decide +kernel⟩
set_option maxRecDepth 20000 in
theorem c_X0_row {l : Launch} {D : va_G} {dT : Nat → ClassId} {a : Nat → Nat} {ra : Nat → Nat → Nat} {v : Ob} {z : FS} {i : Int32} {res : Nat × FS} (hf : rowF 40 z i = some res) : CMr l yX0_row cX0_row 2 (some (.object "NewHouses$Village")) ({ frames := 2, cells := 8 * (res.2.1 - z.1), slots := 96 * (res.2.1 - z.1), locals := 40 } : Room) D dT [.ref (a 0), .int i] [wA dT a (pim ra z.2.1) v, wRw dT z.1 ra z.2.2] (fun u : Nat → Nat → Nat => ∀ k, k ≠ z.1 → u k = ra k) (fun u => [wA dT a (pim u res.2.2.1) v, wRw dT res.2.1 u res.2.2.2]) (fun u => u res.1 0) (8 * (res.2.1 - z.1)) (96 * (res.2.1 - z.1)) := by
  refine CMr.of (by decide) (Nat.le_of_ble_eq_true rfl) rfl ?_
  intro p e s m args below meth c A C
  unfold rowF at hf
  obtain ⟨g1, hf⟩ := grd_ex hf
  refine wa_aload_n C 0 1 dX0_row_0 rfl rfl ?_
  refine wa_get C 4 0 0 1 dX0_row_1 rfl iX0 q281 rfl (Nat.le_of_ble_eq_true rfl) rfl rfl rfl ?_
  refine wa_iload_n C 1 5 dX0_row_4 rfl rfl ?_
  cases hπ : z.2.1 i.toNatClampNeg with
  | some k =>
    simp only [hπ] at hf
    obtain ⟨g2, hf⟩ := grd_ex hf
    cases hf
    refine wa_aldr C 6 0 1 dX0_row_5 rfl rfl rfl (vi_in g1) (pim_some hπ) ?_
    refine wa_nonnull C 22 dX0_row_6 rfl ?_
    refine wa_aload_n C 0 23 dX0_row_22 rfl rfl ?_
    refine wa_get C 26 0 0 1 dX0_row_23 rfl iX0 q281 rfl (Nat.le_of_ble_eq_true rfl) rfl rfl rfl ?_
    refine wa_iload_n C 1 27 dX0_row_26 rfl rfl ?_
    refine wa_aldr C 28 0 1 dX0_row_27 rfl rfl rfl (vi_in g1) (pim_some hπ) ?_
    exact wa_arm C ra dX0_row_28 (fun _ _ => rfl) rfl rfl (Nat.zero_le _) (Nat.zero_le _)
  | none =>
    simp only [hπ] at hf
    obtain ⟨g2, hf⟩ := grd_ex hf
    cases hf
    have hroom : 8 * (z.1 + 1 - z.1) = 8 ∧ 96 * (z.1 + 1 - z.1) = 96 := by omega
    refine wa_aldr C 6 0 1 dX0_row_5 rfl rfl rfl (vi_in g1) (pim_none hπ) ?_
    refine wa_isnull C 9 dX0_row_6 rfl ?_
    refine wa_aload_n C 0 10 dX0_row_9 rfl rfl ?_
    refine wa_get C 13 0 0 1 dX0_row_10 rfl iX0 q281 rfl (Nat.le_of_ble_eq_true rfl) rfl rfl rfl ?_
    refine wa_iload_n C 1 14 dX0_row_13 rfl rfl ?_
    refine wa_new (ci := 10) (fs := [.int 0, .int 0, .int 0, .null, .null, .null, .null, .null, .null, .null]) C 17 tyX10 dX0_row_14 rfl iX10 tyX10_ok q278 q43 q3 rfl (by decide +kernel) (by show 0 + 1 ≤ 8 * (z.1 + 1 - z.1); omega) (by show 0 + 10 ≤ 96 * (z.1 + 1 - z.1); omega) (fun q1 => ?_)
    refine wa_ws (ws' := [wA dT a (pim ra z.2.1) v, wRw dT z.1 ra z.2.2, [(q1, .inr (10, [.int 0, .int 0, .int 0, .null, .null, .null, .null, .null, .null, .null]))]]) rfl ?_
    refine wa_dup C 18 dX0_row_17 rfl rfl ?_
    refine wa_callI (As := []) C 21 dX0_row_18 rfl ki_X0_21 rfl (c_X10_init) ⟨rfl, rfl⟩ ⟨Nat.le_of_ble_eq_true rfl, Nat.le_of_ble_eq_true rfl⟩ [2] [0, 1] rfl rfl rfl rfl (by decide) rfl rfl ⟨by show 0 + 1 + 7 ≤ 8 * (z.1 + 1 - z.1); omega, by show 0 + 10 + 86 ≤ 96 * (z.1 + 1 - z.1); omega⟩ (Nat.le_of_ble_eq_true rfl) (fun aN hu => ?_)
    try dsimp only at hu
    subst hu
    refine wa_ws (ws' := [wA dT a (pim ra z.2.1) v, wRw dT z.1 ra z.2.2, wV dT aN zV]) rfl ?_
    refine wa_astr (ci := 10) (ws' := [wA dT a (va_up (pim ra z.2.1) i.toNatClampNeg (some (aN 0))) v, wRw dT z.1 ra z.2.2, wV dT aN zV]) C 22 0 1 dX0_row_21 rfl rfl rfl ⟨wV dT aN zV, List.mem_of_getElem? (i := 2) rfl, List.mem_of_getElem? (i := 0) rfl⟩ rfl rfl (vi_in g1) rfl ?_
    have hn9 : ∀ k, k ≠ z.1 → (fun k => if k = z.1 then aN else ra k) k = ra k := fun k hk => if_neg hk
    have hn8 : (fun k => if k = z.1 then aN else ra k) z.1 = aN := if_pos rfl
    generalize (fun k => if k = z.1 then aN else ra k) = u at hn9 hn8
    refine wa_rf (b0 := 0) (q0 := 1) (g := pim u (upO z.2.1 i.toNatClampNeg (some z.1))) (ws' := [wA dT a (pim u (upO z.2.1 i.toNatClampNeg (some z.1))) v, wRw dT z.1 ra z.2.2, wV dT aN zV]) (fun j hj => ?_) rfl rfl rfl ?_
    · unfold pim upO va_up
      by_cases e9 : j = i.toNatClampNeg
      · rw [if_pos e9, if_pos e9, Option.map_some, hn8]
      · rw [if_neg e9, if_neg e9]
        dsimp only
        cases hj9 : z.2.1 j with
        | none => rfl
        | some k9 =>
          have h3 := frs_spec g2 hj
          rw [hj9] at h3
          rw [Option.map_some, Option.map_some, hn9 k9 (fun e8 => h3 (by rw [e8]))]
    refine wa_perm (ws' := [wA dT a (pim u (upO z.2.1 i.toNatClampNeg (some z.1))) v, wRw dT (z.1 + 1) u (sV z.2.2 z.1 zV)]) (by rw [wRw_push hn9, hn8]; simp) ?_
    refine wa_aload_n C 0 23 dX0_row_22 rfl rfl ?_
    refine wa_get C 26 0 0 1 dX0_row_23 rfl iX0 q281 rfl (Nat.le_of_ble_eq_true rfl) rfl rfl rfl ?_
    refine wa_iload_n C 1 27 dX0_row_26 rfl rfl ?_
    refine wa_aldr C 28 0 1 dX0_row_27 rfl rfl rfl (vi_in g1) (pim_some (k := z.1) (by unfold upO; rw [if_pos rfl])) ?_
    exact wa_arm C u dX0_row_28 hn9 rfl rfl (by show 0 + 1 + 7 ≤ 8 * (z.1 + 1 - z.1); omega) (by show 0 + 10 + 86 ≤ 96 * (z.1 + 1 - z.1); omega)
theorem ki_X1_44 : KI RX1 44 yX10_init cX10_init 1 0 := KI.mk q457 q45 q3 q46 ⟨by decide, by decide, by decide +kernel⟩
set_option maxRecDepth 20000 in
theorem c_X1_row {l : Launch} {D : va_G} {dT : Nat → ClassId} {a : Nat → Nat} {hd : Nat} {hw : Nat} {hk : Nat} {ra : Nat → Nat → Nat} {v : CS} {z : FS} {i : Int32} {res : Nat × FS} (hf : rowF 201 z i = some res) : CMr l yX1_row cX1_row 2 (some (.object "NewHouses$Village")) ({ frames := 2, cells := 8 * (res.2.1 - z.1), slots := 96 * (res.2.1 - z.1), locals := 40 } : Room) D dT [.ref (a 0), .int i] [wC dT a hd hw hk (pim ra z.2.1) v, wRw dT z.1 ra z.2.2] (fun u : Nat → Nat → Nat => ∀ k, k ≠ z.1 → u k = ra k) (fun u => [wC dT a hd hw hk (pim u res.2.2.1) v, wRw dT res.2.1 u res.2.2.2]) (fun u => u res.1 0) (8 * (res.2.1 - z.1)) (96 * (res.2.1 - z.1)) := by
  refine CMr.of (by decide) (Nat.le_of_ble_eq_true rfl) rfl ?_
  intro p e s m args below meth c A C
  unfold rowF at hf
  obtain ⟨g1, hf⟩ := grd_ex hf
  refine wa_aload_n C 0 1 dX1_row_0 rfl rfl ?_
  refine wa_get C 4 0 0 2 dX1_row_1 rfl iX1 q252 rfl (Nat.le_of_ble_eq_true rfl) rfl rfl rfl ?_
  refine wa_iload_n C 1 5 dX1_row_4 rfl rfl ?_
  cases hπ : z.2.1 i.toNatClampNeg with
  | some k =>
    simp only [hπ] at hf
    obtain ⟨g2, hf⟩ := grd_ex hf
    cases hf
    refine wa_aldr C 6 0 1 dX1_row_5 rfl rfl rfl (vi_in g1) (pim_some hπ) ?_
    refine wa_nonnull C 22 dX1_row_6 rfl ?_
    refine wa_aload_n C 0 23 dX1_row_22 rfl rfl ?_
    refine wa_get C 26 0 0 2 dX1_row_23 rfl iX1 q252 rfl (Nat.le_of_ble_eq_true rfl) rfl rfl rfl ?_
    refine wa_iload_n C 1 27 dX1_row_26 rfl rfl ?_
    refine wa_aldr C 28 0 1 dX1_row_27 rfl rfl rfl (vi_in g1) (pim_some hπ) ?_
    exact wa_arm C ra dX1_row_28 (fun _ _ => rfl) rfl rfl (Nat.zero_le _) (Nat.zero_le _)
  | none =>
    simp only [hπ] at hf
    obtain ⟨g2, hf⟩ := grd_ex hf
    cases hf
    have hroom : 8 * (z.1 + 1 - z.1) = 8 ∧ 96 * (z.1 + 1 - z.1) = 96 := by omega
    refine wa_aldr C 6 0 1 dX1_row_5 rfl rfl rfl (vi_in g1) (pim_none hπ) ?_
    refine wa_isnull C 9 dX1_row_6 rfl ?_
    refine wa_aload_n C 0 10 dX1_row_9 rfl rfl ?_
    refine wa_get C 13 0 0 2 dX1_row_10 rfl iX1 q252 rfl (Nat.le_of_ble_eq_true rfl) rfl rfl rfl ?_
    refine wa_iload_n C 1 14 dX1_row_13 rfl rfl ?_
    refine wa_new (ci := 10) (fs := [.int 0, .int 0, .int 0, .null, .null, .null, .null, .null, .null, .null]) C 17 tyX10 dX1_row_14 rfl iX10 tyX10_ok q234 q43 q3 rfl (by decide +kernel) (by show 0 + 1 ≤ 8 * (z.1 + 1 - z.1); omega) (by show 0 + 10 ≤ 96 * (z.1 + 1 - z.1); omega) (fun q1 => ?_)
    refine wa_ws (ws' := [wC dT a hd hw hk (pim ra z.2.1) v, wRw dT z.1 ra z.2.2, [(q1, .inr (10, [.int 0, .int 0, .int 0, .null, .null, .null, .null, .null, .null, .null]))]]) rfl ?_
    refine wa_dup C 18 dX1_row_17 rfl rfl ?_
    refine wa_callI (As := []) C 21 dX1_row_18 rfl ki_X1_44 rfl (c_X10_init) ⟨rfl, rfl⟩ ⟨Nat.le_of_ble_eq_true rfl, Nat.le_of_ble_eq_true rfl⟩ [2] [0, 1] rfl rfl rfl rfl (by decide) rfl rfl ⟨by show 0 + 1 + 7 ≤ 8 * (z.1 + 1 - z.1); omega, by show 0 + 10 + 86 ≤ 96 * (z.1 + 1 - z.1); omega⟩ (Nat.le_of_ble_eq_true rfl) (fun aN hu => ?_)
    try dsimp only at hu
    subst hu
    refine wa_ws (ws' := [wC dT a hd hw hk (pim ra z.2.1) v, wRw dT z.1 ra z.2.2, wV dT aN zV]) rfl ?_
    refine wa_astr (ci := 10) (ws' := [wC dT a hd hw hk (va_up (pim ra z.2.1) i.toNatClampNeg (some (aN 0))) v, wRw dT z.1 ra z.2.2, wV dT aN zV]) C 22 0 1 dX1_row_21 rfl rfl rfl ⟨wV dT aN zV, List.mem_of_getElem? (i := 2) rfl, List.mem_of_getElem? (i := 0) rfl⟩ rfl rfl (vi_in g1) rfl ?_
    have hn9 : ∀ k, k ≠ z.1 → (fun k => if k = z.1 then aN else ra k) k = ra k := fun k hk => if_neg hk
    have hn8 : (fun k => if k = z.1 then aN else ra k) z.1 = aN := if_pos rfl
    generalize (fun k => if k = z.1 then aN else ra k) = u at hn9 hn8
    refine wa_rf (b0 := 0) (q0 := 1) (g := pim u (upO z.2.1 i.toNatClampNeg (some z.1))) (ws' := [wC dT a hd hw hk (pim u (upO z.2.1 i.toNatClampNeg (some z.1))) v, wRw dT z.1 ra z.2.2, wV dT aN zV]) (fun j hj => ?_) rfl rfl rfl ?_
    · unfold pim upO va_up
      by_cases e9 : j = i.toNatClampNeg
      · rw [if_pos e9, if_pos e9, Option.map_some, hn8]
      · rw [if_neg e9, if_neg e9]
        dsimp only
        cases hj9 : z.2.1 j with
        | none => rfl
        | some k9 =>
          have h3 := frs_spec g2 hj
          rw [hj9] at h3
          rw [Option.map_some, Option.map_some, hn9 k9 (fun e8 => h3 (by rw [e8]))]
    refine wa_perm (ws' := [wC dT a hd hw hk (pim u (upO z.2.1 i.toNatClampNeg (some z.1))) v, wRw dT (z.1 + 1) u (sV z.2.2 z.1 zV)]) (by rw [wRw_push hn9, hn8]; simp) ?_
    refine wa_aload_n C 0 23 dX1_row_22 rfl rfl ?_
    refine wa_get C 26 0 0 2 dX1_row_23 rfl iX1 q252 rfl (Nat.le_of_ble_eq_true rfl) rfl rfl rfl ?_
    refine wa_iload_n C 1 27 dX1_row_26 rfl rfl ?_
    refine wa_aldr C 28 0 1 dX1_row_27 rfl rfl rfl (vi_in g1) (pim_some (k := z.1) (by unfold upO; rw [if_pos rfl])) ?_
    exact wa_arm C u dX1_row_28 hn9 rfl rfl (by show 0 + 1 + 7 ≤ 8 * (z.1 + 1 - z.1); omega) (by show 0 + 10 + 86 ≤ 96 * (z.1 + 1 - z.1); omega)
