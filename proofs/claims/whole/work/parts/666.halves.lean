/-! halves -/
def inS (V : VT) (S i : Nat) : Nat := fb_sm (fun p => if S.testBit p then rk V p else 0) i
def ouS (V : VT) (S i : Nat) : Nat := fb_sm (fun p => if S.testBit p then 0 else rk V p) i
def dfS (V : VT) (S : Nat) : Nat := if ouS V S (vn V) ≤ inS V S (vn V) then inS V S (vn V) - ouS V S (vn V) else ouS V S (vn V) - inS V S (vn V)
theorem inS_le {V : VT} (w : WFP V) (S : Nat) {i : Nat} (hi : i ≤ vn V) : inS V S i ≤ 108 := by
  have := fb_sm_bound (f := fun p => if S.testBit p then rk V p else 0) (c := 9) (n := i) (fun k hk => by
    show (if S.testBit k then rk V k else 0) ≤ 9
    have := (w.2.1 k (by omega)).2.2.1
    split <;> omega)
  have := w.1.1
  unfold inS
  omega
theorem ouS_le {V : VT} (w : WFP V) (S : Nat) {i : Nat} (hi : i ≤ vn V) : ouS V S i ≤ 108 := by
  have := fb_sm_bound (f := fun p => if S.testBit p then 0 else rk V p) (c := 9) (n := i) (fun k hk => by
    show (if S.testBit k then 0 else rk V k) ≤ 9
    have := (w.2.1 k (by omega)).2.2.1
    split <;> omega)
  have := w.1.1
  unfold ouS
  omega
theorem dfS_le {V : VT} (w : WFP V) (S : Nat) : dfS V S ≤ 108 := by
  have := inS_le w S (Nat.le_refl _)
  have := ouS_le w S (Nat.le_refl _)
  unfold dfS
  split <;> omega
theorem sb_add (a b r : Nat) : nI a - nI b + nI r = nI (a + r) - nI b := by
  rw [← nI_add, Int32.sub_eq_add_neg, Int32.sub_eq_add_neg, Int32.add_assoc, Int32.add_assoc, Int32.add_comm (-nI b)]
theorem sb_sub (a b r : Nat) : nI a - nI b + -(nI r) = nI a - nI (b + r) := by
  rw [← nI_add, Int32.sub_eq_add_neg, Int32.sub_eq_add_neg, Int32.neg_add, Int32.sub_eq_add_neg, Int32.add_assoc]
theorem abs_sb {a b : Nat} (ha : a < 2 ^ 30) (hb : b < 2 ^ 30) {inst : Decidable (nI 0 ≤ nI a - nI b)} : (@ite Int32 (nI 0 ≤ nI a - nI b) inst (nI a - nI b) (nI 0 - (nI a - nI b))) = nI (if b ≤ a then a - b else b - a) := by
  have ti := pk_sub_toInt (a := a) (b := b) ha hb
  by_cases q : b ≤ a
  · rw [if_pos q, if_pos (by rw [Int32.le_iff_toInt_le, ti]; show (0 : Int) ≤ _; omega), sx_sub q]
  · rw [if_neg q, if_neg (by rw [Int32.le_iff_toInt_le, ti]; show ¬ (0 : Int) ≤ _; omega)]
    rw [← sx_sub (show a ≤ b by omega), show nI 0 = 0 from rfl, Int32.zero_sub, Int32.neg_sub]
theorem c_differenceBy {o v : Ob} {V : VT} (c : VC v V) (w : WFP V) {S : Nat} (hS : S < 2147483648) : f_X5_differenceBy o v (nI S) = some (nI (dfS V S)) := by
  have b0 := w.1
  refine RT.eq ?_
  refine RT.cps (fun Q hQ => ?_)
  unfold f_X5_differenceBy
  refine RT.loop0 (fun n i (l3 : Int32) => f_X5_differenceBy_L5 (nI S) o v n l3 (nI i)) (vn V) (fun i l3 => l3 = nI (inS V S i) - nI (ouS V S i)) _ _ (by omega) (show (0 : Int32) = nI 0 - nI 0 from by decide) ?_ ?_
  · intro n l3 e
    show RT (f_X5_differenceBy_L5 (nI S) o v (n + 1) l3 (nI (vn V))) _
    have a := inS_le w S (Nat.le_refl _)
    have b := ouS_le w S (Nat.le_refl _)
    unfold f_X5_differenceBy_L5
    simp (disch := omega) only [bnd_nr, li_0, li_1, li_2, li_3, li_4, li_5, li_6, li_7, li_8, li_9, li_10, li_11, li_12, li_13, li_14, li_15, li_16, li_17, li_18, li_19, li_20, li_21, li_22, li_23, li_24, li_25, li_26, li_27, li_28, li_29, li_30, li_31, li_32, li_33, li_34, li_35, li_36, li_37, li_38, li_39, li_40, li_41, li_42, li_43, li_44, li_45, li_46, li_47, li_48, li_49, li_50, li_51, li_52, li_53, li_54, li_55, li_56, li_57, li_58, li_59, li_60, li_61, li_62, li_63, li_64, li_74, li_86, li_87, li_88, li_96, li_97, li_98, li_99, li_100, li_101, li_102, li_103, li_104, li_105, li_107, li_108, li_109, li_110, li_111, li_112, li_114, li_115, li_116, li_117, li_118, li_121, li_122, li_124, li_136, li_148, li_160, li_680, li_200, li_201, li_255, li_700, li_950, li_1000, li_1400, li_3440, li_4096, li_9999, li_10000, li_20000, li_20033, li_20038, li_20124, li_32767, li_65535, li_1103515245, li_12345, li_m, sx_grd, sx_clamp, nI_add, sx_sub, pk_mul, sx_le, sx_lt, sx_eq, sx_eqm, sx_meq, sx_lem, sx_mle, sx_ltm, sx_mlt, sx_addm, sx_shl, sx_bit1, sx_bit0, fa_or, uA_s, uA_n, sA_s, sA_n, sx_uA, sx_uAn, sx_sAs, pk_us, pk_un, if_true, if_false, if_pos, if_neg, ob_some, Nat.add_zero, Nat.add_sub_cancel, eq_self, ne_eq, not_true, not_false_iff, false_or, true_or, or_false, or_true, false_and, true_and, and_false, and_true, c.1.1]
    refine RT.done hQ ?_
    rw [e]
    exact abs_sb (by omega) (by omega)
  · intro n i l3 hi e hk
    show RT (f_X5_differenceBy_L5 (nI S) o v (n + 1) l3 (nI i)) _
    unfold f_X5_differenceBy_L5
    simp (disch := omega) only [bnd_nr, li_0, li_1, li_2, li_3, li_4, li_5, li_6, li_7, li_8, li_9, li_10, li_11, li_12, li_13, li_14, li_15, li_16, li_17, li_18, li_19, li_20, li_21, li_22, li_23, li_24, li_25, li_26, li_27, li_28, li_29, li_30, li_31, li_32, li_33, li_34, li_35, li_36, li_37, li_38, li_39, li_40, li_41, li_42, li_43, li_44, li_45, li_46, li_47, li_48, li_49, li_50, li_51, li_52, li_53, li_54, li_55, li_56, li_57, li_58, li_59, li_60, li_61, li_62, li_63, li_64, li_74, li_86, li_87, li_88, li_96, li_97, li_98, li_99, li_100, li_101, li_102, li_103, li_104, li_105, li_107, li_108, li_109, li_110, li_111, li_112, li_114, li_115, li_116, li_117, li_118, li_121, li_122, li_124, li_136, li_148, li_160, li_680, li_200, li_201, li_255, li_700, li_950, li_1000, li_1400, li_3440, li_4096, li_9999, li_10000, li_20000, li_20033, li_20038, li_20124, li_32767, li_65535, li_1103515245, li_12345, li_m, sx_grd, sx_clamp, nI_add, sx_sub, pk_mul, sx_le, sx_lt, sx_eq, sx_eqm, sx_meq, sx_lem, sx_mle, sx_ltm, sx_mlt, sx_addm, sx_shl, sx_bit1, sx_bit0, fa_or, uA_s, uA_n, sA_s, sA_n, sx_uA, sx_uAn, sx_sAs, pk_us, pk_un, if_true, if_false, if_pos, if_neg, ob_some, Nat.add_zero, Nat.add_sub_cancel, eq_self, ne_eq, not_true, not_false_iff, false_or, true_or, or_false, or_true, false_and, true_and, and_false, and_true, c.1.1, c.r i hi, e, sb_add, sb_sub]
    refine RT.ite (fun d => hk _ ?_) (fun d => hk _ ?_)
    · unfold inS ouS
      rw [fb_sm_succ, fb_sm_succ, d]; rfl
    · unfold inS ouS
      rw [fb_sm_succ, fb_sm_succ, ts_nf d]; rfl
def HB (V : VT) (i : Nat) (b l : Int32) (big : Nat) : Prop := (i = 0 ∧ b = nI 0 ∧ l = nI big) ∨ ∃ j, j < i ∧ b = nI (2 * j + 1) ∧ l = nI (dfS V (2 * j + 1)) ∧ ∀ k, k < i → dfS V (2 * j + 1) ≤ dfS V (2 * k + 1) ∧ (k < j → dfS V (2 * j + 1) < dfS V (2 * k + 1))
theorem HB_step {V : VT} {i : Nat} {b l : Int32} {big : Nat} (h : HB V i b l big) (d : i = 0 ∨ ∃ j, l = nI (dfS V (2 * j + 1)) ∧ dfS V (2 * i + 1) < dfS V (2 * j + 1)) (hl : ∀ s, dfS V s ≤ 108) : HB V (i + 1) (nI (2 * i + 1)) (nI (dfS V (2 * i + 1))) big := by
  refine Or.inr ⟨i, by omega, rfl, rfl, fun k hk => ?_⟩
  by_cases ki : k = i
  · subst ki; omega
  · rcases h with ⟨h1, _⟩ | ⟨j, j1, j2, j3, j4⟩
    · omega
    · have := j4 k (by omega)
      rcases d with z | ⟨j9, z1, z2⟩
      · omega
      · rw [j3] at z1
        have a1 := hl (2 * j + 1)
        have a2 := hl (2 * j9 + 1)
        rw [nI_eq (by omega) (by omega)] at z1
        omega
theorem HB_stay {V : VT} {i : Nat} {b l : Int32} {big : Nat} (h : HB V i b l big) (d : ∀ j, l = nI (dfS V (2 * j + 1)) → dfS V (2 * j + 1) ≤ dfS V (2 * i + 1)) (i0 : i ≠ 0) : HB V (i + 1) b l big := by
  rcases h with ⟨h1, _⟩ | ⟨j, j1, j2, j3, j4⟩
  · exact absurd h1 i0
  · refine Or.inr ⟨j, by omega, j2, j3, fun k hk => ?_⟩
    by_cases ki : k = i
    · subst ki
      have := d j j3
      omega
    · exact j4 k (by omega)
def HF (V : VT) (b : Nat) : Prop := (vn V = 0 ∧ b = 0) ∨ ∃ j, j < 2 ^ vn V / 2 ∧ b = 2 * j + 1 ∧ ∀ k, k < 2 ^ vn V / 2 → dfS V (2 * j + 1) ≤ dfS V (2 * k + 1) ∧ (k < j → dfS V (2 * j + 1) < dfS V (2 * k + 1))
theorem half_pos {n : Nat} (h : 0 < n) : 0 < 2 ^ n / 2 ∧ 2 * (2 ^ n / 2) = 2 ^ n := by
  obtain ⟨m, rfl⟩ : ∃ m, n = m + 1 := ⟨n - 1, by omega⟩
  have := Nat.two_pow_pos m
  rw [Nat.pow_succ]
  omega
theorem HF_one {V : VT} {a b : Nat} (h : HF V a) (k : HF V b) : a = b := by
  rcases h with ⟨h1, h2⟩ | ⟨j, j1, j2, j3⟩
  · rcases k with ⟨k1, k2⟩ | ⟨l, l1, l2, l3⟩
    · omega
    · rw [h1] at l1; simp at l1
  · rcases k with ⟨k1, k2⟩ | ⟨l, l1, l2, l3⟩
    · rw [k1] at j1; simp at j1
    · have x := j3 l l1
      have y := l3 j j1
      omega
theorem HB_end {V : VT} {b l : Int32} {big : Nat} (h : HB V (2 ^ vn V / 2) b l big) : ∃ x, b = nI x ∧ HF V x ∧ (vn V = 0 ∧ l = nI big ∨ 0 < vn V ∧ l = nI (dfS V x)) := by
  rcases h with ⟨h1, h2, h3⟩ | ⟨j, j1, j2, j3, j4⟩
  · have n0 : vn V = 0 := by
      rcases Nat.eq_zero_or_pos (vn V) with z | z
      · exact z
      · have := half_pos z; omega
    exact ⟨0, h2, Or.inl ⟨n0, rfl⟩, Or.inl ⟨n0, h3⟩⟩
  · have np : 0 < vn V := by
      rcases Nat.eq_zero_or_pos (vn V) with z | z
      · rw [z] at j1; simp at j1
      · exact z
    exact ⟨_, j2, Or.inr ⟨j, j1, rfl, j4⟩, Or.inr ⟨np, j3⟩⟩
theorem c_firstHalf {o v : Ob} {V : VT} (c : VC v V) (w : WFP V) : RT (f_X5_firstHalf o v) (fun r => ∃ b, r = nI b ∧ b < 2 ^ 12 ∧ HF V b) := by
  have b0 := w.1
  have p1 := Nat.two_pow_pos (vn V)
  have p2 : 2 ^ vn V ≤ 2 ^ 12 := Nat.pow_le_pow_right (by omega) b0.1
  have hl := dfS_le w
  refine RT.cps (fun Q hQ => ?_)
  unfold f_X5_firstHalf
  refine RT.loop0_2 (fun n i (l2 l3 : Int32) => f_X5_firstHalf_L9 o v n l2 l3 (nI (2 * i + 1))) (2 ^ vn V / 2) (fun i l2 l3 => HB V i l2 l3 1000) _ _ _ (by omega) (Or.inl ⟨rfl, rfl, rfl⟩) ?_ ?_
  · intro n l2 l3 h
    show RT (f_X5_firstHalf_L9 o v (n + 1) l2 l3 (nI (2 * (2 ^ vn V / 2) + 1))) _
    unfold f_X5_firstHalf_L9
    simp (disch := omega) only [bnd_nr, li_0, li_1, li_2, li_3, li_4, li_5, li_6, li_7, li_8, li_9, li_10, li_11, li_12, li_13, li_14, li_15, li_16, li_17, li_18, li_19, li_20, li_21, li_22, li_23, li_24, li_25, li_26, li_27, li_28, li_29, li_30, li_31, li_32, li_33, li_34, li_35, li_36, li_37, li_38, li_39, li_40, li_41, li_42, li_43, li_44, li_45, li_46, li_47, li_48, li_49, li_50, li_51, li_52, li_53, li_54, li_55, li_56, li_57, li_58, li_59, li_60, li_61, li_62, li_63, li_64, li_74, li_86, li_87, li_88, li_96, li_97, li_98, li_99, li_100, li_101, li_102, li_103, li_104, li_105, li_107, li_108, li_109, li_110, li_111, li_112, li_114, li_115, li_116, li_117, li_118, li_121, li_122, li_124, li_136, li_148, li_160, li_680, li_200, li_201, li_255, li_700, li_950, li_1000, li_1400, li_3440, li_4096, li_9999, li_10000, li_20000, li_20033, li_20038, li_20124, li_32767, li_65535, li_1103515245, li_12345, li_m, sx_grd, sx_clamp, nI_add, sx_sub, pk_mul, sx_le, sx_lt, sx_eq, sx_eqm, sx_meq, sx_lem, sx_mle, sx_ltm, sx_mlt, sx_addm, sx_shl, sx_bit1, sx_bit0, fa_or, uA_s, uA_n, sA_s, sA_n, sx_uA, sx_uAn, sx_sAs, pk_us, pk_un, if_true, if_false, if_pos, if_neg, ob_some, Nat.add_zero, Nat.add_sub_cancel, eq_self, ne_eq, not_true, not_false_iff, false_or, true_or, or_false, or_true, false_and, true_and, and_false, and_true, c.1.1]
    obtain ⟨x, x1, x2, x3⟩ := HB_end h
    refine RT.done hQ ⟨x, x1, ?_, x2⟩
    rcases x2 with ⟨_, z⟩ | ⟨j, j1, j2, _⟩
    · omega
    · omega
  · intro n i l2 l3 hi h hk
    show RT (f_X5_firstHalf_L9 o v (n + 1) l2 l3 (nI (2 * i + 1))) _
    have q1 := hl (2 * i + 1)
    unfold f_X5_firstHalf_L9
    simp (disch := omega) only [bnd_nr, li_0, li_1, li_2, li_3, li_4, li_5, li_6, li_7, li_8, li_9, li_10, li_11, li_12, li_13, li_14, li_15, li_16, li_17, li_18, li_19, li_20, li_21, li_22, li_23, li_24, li_25, li_26, li_27, li_28, li_29, li_30, li_31, li_32, li_33, li_34, li_35, li_36, li_37, li_38, li_39, li_40, li_41, li_42, li_43, li_44, li_45, li_46, li_47, li_48, li_49, li_50, li_51, li_52, li_53, li_54, li_55, li_56, li_57, li_58, li_59, li_60, li_61, li_62, li_63, li_64, li_74, li_86, li_87, li_88, li_96, li_97, li_98, li_99, li_100, li_101, li_102, li_103, li_104, li_105, li_107, li_108, li_109, li_110, li_111, li_112, li_114, li_115, li_116, li_117, li_118, li_121, li_122, li_124, li_136, li_148, li_160, li_680, li_200, li_201, li_255, li_700, li_950, li_1000, li_1400, li_3440, li_4096, li_9999, li_10000, li_20000, li_20033, li_20038, li_20124, li_32767, li_65535, li_1103515245, li_12345, li_m, sx_grd, sx_clamp, nI_add, sx_sub, pk_mul, sx_le, sx_lt, sx_eq, sx_eqm, sx_meq, sx_lem, sx_mle, sx_ltm, sx_mlt, sx_addm, sx_shl, sx_bit1, sx_bit0, fa_or, uA_s, uA_n, sA_s, sA_n, sx_uA, sx_uAn, sx_sAs, pk_us, pk_un, if_true, if_false, if_pos, if_neg, ob_some, Nat.add_zero, Nat.add_sub_cancel, eq_self, ne_eq, not_true, not_false_iff, false_or, true_or, or_false, or_true, false_and, true_and, and_false, and_true, c.1.1, c_differenceBy c w (show 2 * i + 1 < 2147483648 by omega)]
    have nx9 : ∀ a b, HB V (i + 1) a b 1000 → RT (f_X5_firstHalf_L9 o v n a b (nI (2 * i + 1 + 2))) Q := fun a b hb => hk a b hb
    rcases h with ⟨h1, h2, h3⟩ | ⟨j, j1, j2, j3, j4⟩
    · subst h3
      simp (disch := omega) only [bnd_nr, li_0, li_1, li_2, li_3, li_4, li_5, li_6, li_7, li_8, li_9, li_10, li_11, li_12, li_13, li_14, li_15, li_16, li_17, li_18, li_19, li_20, li_21, li_22, li_23, li_24, li_25, li_26, li_27, li_28, li_29, li_30, li_31, li_32, li_33, li_34, li_35, li_36, li_37, li_38, li_39, li_40, li_41, li_42, li_43, li_44, li_45, li_46, li_47, li_48, li_49, li_50, li_51, li_52, li_53, li_54, li_55, li_56, li_57, li_58, li_59, li_60, li_61, li_62, li_63, li_64, li_74, li_86, li_87, li_88, li_96, li_97, li_98, li_99, li_100, li_101, li_102, li_103, li_104, li_105, li_107, li_108, li_109, li_110, li_111, li_112, li_114, li_115, li_116, li_117, li_118, li_121, li_122, li_124, li_136, li_148, li_160, li_680, li_200, li_201, li_255, li_700, li_950, li_1000, li_1400, li_3440, li_4096, li_9999, li_10000, li_20000, li_20033, li_20038, li_20124, li_32767, li_65535, li_1103515245, li_12345, li_m, sx_grd, sx_clamp, nI_add, sx_sub, pk_mul, sx_le, sx_lt, sx_eq, sx_eqm, sx_meq, sx_lem, sx_mle, sx_ltm, sx_mlt, sx_addm, sx_shl, sx_bit1, sx_bit0, fa_or, uA_s, uA_n, sA_s, sA_n, sx_uA, sx_uAn, sx_sAs, pk_us, pk_un, if_true, if_false, if_pos, if_neg, ob_some, Nat.add_zero, Nat.add_sub_cancel, eq_self, ne_eq, not_true, not_false_iff, false_or, true_or, or_false, or_true, false_and, true_and, and_false, and_true]
      exact nx9 _ _ (HB_step (Or.inl ⟨h1, h2, rfl⟩) (Or.inl h1) hl)
    · have q2 := hl (2 * j + 1)
      have h9 : HB V i l2 l3 1000 := Or.inr ⟨j, j1, j2, j3, j4⟩
      subst j3
      simp (disch := omega) only [bnd_nr, li_0, li_1, li_2, li_3, li_4, li_5, li_6, li_7, li_8, li_9, li_10, li_11, li_12, li_13, li_14, li_15, li_16, li_17, li_18, li_19, li_20, li_21, li_22, li_23, li_24, li_25, li_26, li_27, li_28, li_29, li_30, li_31, li_32, li_33, li_34, li_35, li_36, li_37, li_38, li_39, li_40, li_41, li_42, li_43, li_44, li_45, li_46, li_47, li_48, li_49, li_50, li_51, li_52, li_53, li_54, li_55, li_56, li_57, li_58, li_59, li_60, li_61, li_62, li_63, li_64, li_74, li_86, li_87, li_88, li_96, li_97, li_98, li_99, li_100, li_101, li_102, li_103, li_104, li_105, li_107, li_108, li_109, li_110, li_111, li_112, li_114, li_115, li_116, li_117, li_118, li_121, li_122, li_124, li_136, li_148, li_160, li_680, li_200, li_201, li_255, li_700, li_950, li_1000, li_1400, li_3440, li_4096, li_9999, li_10000, li_20000, li_20033, li_20038, li_20124, li_32767, li_65535, li_1103515245, li_12345, li_m, sx_grd, sx_clamp, nI_add, sx_sub, pk_mul, sx_le, sx_lt, sx_eq, sx_eqm, sx_meq, sx_lem, sx_mle, sx_ltm, sx_mlt, sx_addm, sx_shl, sx_bit1, sx_bit0, fa_or, uA_s, uA_n, sA_s, sA_n, sx_uA, sx_uAn, sx_sAs, pk_us, pk_un, if_true, if_false, if_pos, if_neg, ob_some, Nat.add_zero, Nat.add_sub_cancel, eq_self, ne_eq, not_true, not_false_iff, false_or, true_or, or_false, or_true, false_and, true_and, and_false, and_true]
      refine RT.ite (fun d => nx9 _ _ (HB_stay h9 (fun j9 e9 => ?_) (by omega))) (fun d => nx9 _ _ (HB_step h9 (Or.inr ⟨j, rfl, by omega⟩) hl))
      have q3 := hl (2 * j9 + 1)
      rw [nI_eq (by omega) (by omega)] at e9
      omega
theorem m_halves0 {M : MS} {V : VT} (v : VM M 0 V) (w : WFP V) (x : Int32) : RT (f_X12_halves_L28 x (nI 0) (nI 9999) M FUEL (nI 0) (nI 0)) (fun r => r.2 = M ∧ ∃ b, HF V b ∧ r.1 = if x = 1 then nI b else nI (dfS V b)) := by
  have b0 := w.1
  have p1 := Nat.two_pow_pos (vn V)
  have p2 : 2 ^ vn V ≤ 2 ^ 12 := Nat.pow_le_pow_right (by omega) b0.1
  have hl := dfS_le w
  have rv : ∀ p, p < vn V → M.2.2 10 (50 + p) = nI (rk V p) := fun p hp => by
    have := v.r p hp
    rw [show 0 + 50 + p = 50 + p by omega] at this
    exact this
  refine RT.cps (fun Q hQ => ?_)
  refine RT.loop0 (fun n i (l2 : Int32) => f_X12_halves_L28 x (nI 0) (nI 9999) M n l2 (nI i)) (vn V) (fun i l2 => l2 = nI (fb_sm (rk V) i)) _ _ (by omega) rfl ?_ ?_
  · intro n l2 e
    show RT (f_X12_halves_L28 x (nI 0) (nI 9999) M (n + 1) l2 (nI (vn V))) _
    unfold f_X12_halves_L28
    simp (disch := omega) only [bnd_nr, li_0, li_1, li_2, li_3, li_4, li_5, li_6, li_7, li_8, li_9, li_10, li_11, li_12, li_13, li_14, li_15, li_16, li_17, li_18, li_19, li_20, li_21, li_22, li_23, li_24, li_25, li_26, li_27, li_28, li_29, li_30, li_31, li_32, li_33, li_34, li_35, li_36, li_37, li_38, li_39, li_40, li_41, li_42, li_43, li_44, li_45, li_46, li_47, li_48, li_49, li_50, li_51, li_52, li_53, li_54, li_55, li_56, li_57, li_58, li_59, li_60, li_61, li_62, li_63, li_64, li_74, li_86, li_87, li_88, li_96, li_97, li_98, li_99, li_100, li_101, li_102, li_103, li_104, li_105, li_107, li_108, li_109, li_110, li_111, li_112, li_114, li_115, li_116, li_117, li_118, li_121, li_122, li_124, li_136, li_148, li_160, li_680, li_200, li_201, li_255, li_700, li_950, li_1000, li_1400, li_3440, li_4096, li_9999, li_10000, li_20000, li_20033, li_20038, li_20124, li_32767, li_65535, li_1103515245, li_12345, li_m, sx_grd, sx_clamp, nI_add, sx_sub, pk_mul, sx_le, sx_lt, sx_eq, sx_eqm, sx_meq, sx_lem, sx_mle, sx_ltm, sx_mlt, sx_addm, sx_shl, sx_bit1, sx_bit0, fa_or, uA_s, uA_n, sA_s, sA_n, sx_uA, sx_uAn, sx_sAs, pk_us, pk_un, if_true, if_false, if_pos, if_neg, ob_some, Nat.add_zero, Nat.add_sub_cancel, eq_self, ne_eq, not_true, not_false_iff, false_or, true_or, or_false, or_true, false_and, true_and, and_false, and_true, v.1, e]
    refine RT.loop0_2 (fun n i (l3 l4 : Int32) => f_X12_halves_L59 x (nI (fb_sm (rk V) (vn V))) M n l3 l4 (nI (2 * i + 1))) (2 ^ vn V / 2) (fun i l3 l4 => HB V i l3 l4 9999) _ _ _ (by omega) (Or.inl ⟨rfl, rfl, rfl⟩) ?_ ?_
    · intro n l3 l4 h
      show RT (f_X12_halves_L59 x (nI (fb_sm (rk V) (vn V))) M (n + 1) l3 l4 (nI (2 * (2 ^ vn V / 2) + 1))) _
      obtain ⟨y, y1, y2, y3⟩ := HB_end h
      have q9 := hl y
      unfold f_X12_halves_L59
      rcases y3 with ⟨z1, z2⟩ | ⟨z1, z2⟩
      · have dz : dfS V y = 0 := by unfold dfS inS ouS; rw [z1]; rfl
        subst z2
        simp (disch := omega) only [bnd_nr, li_0, li_1, li_2, li_3, li_4, li_5, li_6, li_7, li_8, li_9, li_10, li_11, li_12, li_13, li_14, li_15, li_16, li_17, li_18, li_19, li_20, li_21, li_22, li_23, li_24, li_25, li_26, li_27, li_28, li_29, li_30, li_31, li_32, li_33, li_34, li_35, li_36, li_37, li_38, li_39, li_40, li_41, li_42, li_43, li_44, li_45, li_46, li_47, li_48, li_49, li_50, li_51, li_52, li_53, li_54, li_55, li_56, li_57, li_58, li_59, li_60, li_61, li_62, li_63, li_64, li_74, li_86, li_87, li_88, li_96, li_97, li_98, li_99, li_100, li_101, li_102, li_103, li_104, li_105, li_107, li_108, li_109, li_110, li_111, li_112, li_114, li_115, li_116, li_117, li_118, li_121, li_122, li_124, li_136, li_148, li_160, li_680, li_200, li_201, li_255, li_700, li_950, li_1000, li_1400, li_3440, li_4096, li_9999, li_10000, li_20000, li_20033, li_20038, li_20124, li_32767, li_65535, li_1103515245, li_12345, li_m, sx_grd, sx_clamp, nI_add, sx_sub, pk_mul, sx_le, sx_lt, sx_eq, sx_eqm, sx_meq, sx_lem, sx_mle, sx_ltm, sx_mlt, sx_addm, sx_shl, sx_bit1, sx_bit0, fa_or, uA_s, uA_n, sA_s, sA_n, sx_uA, sx_uAn, sx_sAs, pk_us, pk_un, if_true, if_false, if_pos, if_neg, ob_some, Nat.add_zero, Nat.add_sub_cancel, eq_self, ne_eq, not_true, not_false_iff, false_or, true_or, or_false, or_true, false_and, true_and, and_false, and_true, v.1]
        refine RT.ite (fun d => RT.done hQ ⟨rfl, y, y2, ?_⟩) (fun d => RT.done hQ ⟨rfl, y, y2, ?_⟩)
        · rw [if_pos (show x = 1 from d)]; exact y1
        · rw [if_neg (show ¬ x = 1 from d), dz]
      · subst z2
        simp (disch := omega) only [bnd_nr, li_0, li_1, li_2, li_3, li_4, li_5, li_6, li_7, li_8, li_9, li_10, li_11, li_12, li_13, li_14, li_15, li_16, li_17, li_18, li_19, li_20, li_21, li_22, li_23, li_24, li_25, li_26, li_27, li_28, li_29, li_30, li_31, li_32, li_33, li_34, li_35, li_36, li_37, li_38, li_39, li_40, li_41, li_42, li_43, li_44, li_45, li_46, li_47, li_48, li_49, li_50, li_51, li_52, li_53, li_54, li_55, li_56, li_57, li_58, li_59, li_60, li_61, li_62, li_63, li_64, li_74, li_86, li_87, li_88, li_96, li_97, li_98, li_99, li_100, li_101, li_102, li_103, li_104, li_105, li_107, li_108, li_109, li_110, li_111, li_112, li_114, li_115, li_116, li_117, li_118, li_121, li_122, li_124, li_136, li_148, li_160, li_680, li_200, li_201, li_255, li_700, li_950, li_1000, li_1400, li_3440, li_4096, li_9999, li_10000, li_20000, li_20033, li_20038, li_20124, li_32767, li_65535, li_1103515245, li_12345, li_m, sx_grd, sx_clamp, nI_add, sx_sub, pk_mul, sx_le, sx_lt, sx_eq, sx_eqm, sx_meq, sx_lem, sx_mle, sx_ltm, sx_mlt, sx_addm, sx_shl, sx_bit1, sx_bit0, fa_or, uA_s, uA_n, sA_s, sA_n, sx_uA, sx_uAn, sx_sAs, pk_us, pk_un, if_true, if_false, if_pos, if_neg, ob_some, Nat.add_zero, Nat.add_sub_cancel, eq_self, ne_eq, not_true, not_false_iff, false_or, true_or, or_false, or_true, false_and, true_and, and_false, and_true, v.1]
        refine RT.ite (fun d => RT.done hQ ⟨rfl, y, y2, ?_⟩) (fun d => RT.done hQ ⟨rfl, y, y2, ?_⟩)
        · rw [if_pos (show x = 1 from d)]; exact y1
        · rw [if_neg (show ¬ x = 1 from d)]
    · intro n i l3 l4 hi h hk
      show RT (f_X12_halves_L59 x (nI (fb_sm (rk V) (vn V))) M (n + 1) l3 l4 (nI (2 * i + 1))) _
      have q1 := hl (2 * i + 1)
      have nx9 : ∀ a b, HB V (i + 1) a b 9999 → RT (f_X12_halves_L59 x (nI (fb_sm (rk V) (vn V))) M n a b (nI (2 * i + 1 + 2))) Q := fun a b hb => hk a b hb
      unfold f_X12_halves_L59
      simp (disch := omega) only [bnd_nr, li_0, li_1, li_2, li_3, li_4, li_5, li_6, li_7, li_8, li_9, li_10, li_11, li_12, li_13, li_14, li_15, li_16, li_17, li_18, li_19, li_20, li_21, li_22, li_23, li_24, li_25, li_26, li_27, li_28, li_29, li_30, li_31, li_32, li_33, li_34, li_35, li_36, li_37, li_38, li_39, li_40, li_41, li_42, li_43, li_44, li_45, li_46, li_47, li_48, li_49, li_50, li_51, li_52, li_53, li_54, li_55, li_56, li_57, li_58, li_59, li_60, li_61, li_62, li_63, li_64, li_74, li_86, li_87, li_88, li_96, li_97, li_98, li_99, li_100, li_101, li_102, li_103, li_104, li_105, li_107, li_108, li_109, li_110, li_111, li_112, li_114, li_115, li_116, li_117, li_118, li_121, li_122, li_124, li_136, li_148, li_160, li_680, li_200, li_201, li_255, li_700, li_950, li_1000, li_1400, li_3440, li_4096, li_9999, li_10000, li_20000, li_20033, li_20038, li_20124, li_32767, li_65535, li_1103515245, li_12345, li_m, sx_grd, sx_clamp, nI_add, sx_sub, pk_mul, sx_le, sx_lt, sx_eq, sx_eqm, sx_meq, sx_lem, sx_mle, sx_ltm, sx_mlt, sx_addm, sx_shl, sx_bit1, sx_bit0, fa_or, uA_s, uA_n, sA_s, sA_n, sx_uA, sx_uAn, sx_sAs, pk_us, pk_un, if_true, if_false, if_pos, if_neg, ob_some, Nat.add_zero, Nat.add_sub_cancel, eq_self, ne_eq, not_true, not_false_iff, false_or, true_or, or_false, or_true, false_and, true_and, and_false, and_true, v.1]
      refine RT.loop0 (fun n2 p (l6 : Int32) => f_X12_halves_L76 (f_X12_halves_L59 x (nI (fb_sm (rk V) (vn V))) M n) x (nI (fb_sm (rk V) (vn V))) l3 l4 (nI (2 * i + 1)) M n2 l6 (nI p)) (vn V) (fun p l6 => l6 = nI (inS V (2 * i + 1) p)) _ _ (by omega) rfl ?_ ?_
      · intro n2 l6 e6
        show RT (f_X12_halves_L76 (f_X12_halves_L59 x (nI (fb_sm (rk V) (vn V))) M n) x (nI (fb_sm (rk V) (vn V))) l3 l4 (nI (2 * i + 1)) M (n2 + 1) l6 (nI (vn V))) _
        have a1 := inS_le w (2 * i + 1) (Nat.le_refl _)
        have a2 := ouS_le w (2 * i + 1) (Nat.le_refl _)
        have sum : fb_sm (rk V) (vn V) = inS V (2 * i + 1) (vn V) + ouS V (2 * i + 1) (vn V) := by
          unfold inS ouS
          rw [← fb_sm_add]
          exact fb_sm_cong (fun k _ => by split <;> omega)
        have ap : f_X12_apart (nI 2 * l6) (nI (fb_sm (rk V) (vn V))) = some (nI (dfS V (2 * i + 1))) := by
          rw [e6, sum]
          unfold f_X12_apart dfS
          simp (disch := omega) only [bnd_nr, li_0, li_1, li_2, li_3, li_4, li_5, li_6, li_7, li_8, li_9, li_10, li_11, li_12, li_13, li_14, li_15, li_16, li_17, li_18, li_19, li_20, li_21, li_22, li_23, li_24, li_25, li_26, li_27, li_28, li_29, li_30, li_31, li_32, li_33, li_34, li_35, li_36, li_37, li_38, li_39, li_40, li_41, li_42, li_43, li_44, li_45, li_46, li_47, li_48, li_49, li_50, li_51, li_52, li_53, li_54, li_55, li_56, li_57, li_58, li_59, li_60, li_61, li_62, li_63, li_64, li_74, li_86, li_87, li_88, li_96, li_97, li_98, li_99, li_100, li_101, li_102, li_103, li_104, li_105, li_107, li_108, li_109, li_110, li_111, li_112, li_114, li_115, li_116, li_117, li_118, li_121, li_122, li_124, li_136, li_148, li_160, li_680, li_200, li_201, li_255, li_700, li_950, li_1000, li_1400, li_3440, li_4096, li_9999, li_10000, li_20000, li_20033, li_20038, li_20124, li_32767, li_65535, li_1103515245, li_12345, li_m, sx_grd, sx_clamp, nI_add, sx_sub, pk_mul, sx_le, sx_lt, sx_eq, sx_eqm, sx_meq, sx_lem, sx_mle, sx_ltm, sx_mlt, sx_addm, sx_shl, sx_bit1, sx_bit0, fa_or, uA_s, uA_n, sA_s, sA_n, sx_uA, sx_uAn, sx_sAs, pk_us, pk_un, if_true, if_false, if_pos, if_neg, ob_some, Nat.add_zero, Nat.add_sub_cancel, eq_self, ne_eq, not_true, not_false_iff, false_or, true_or, or_false, or_true, false_and, true_and, and_false, and_true]
          by_cases q : ouS V (2 * i + 1) (vn V) ≤ inS V (2 * i + 1) (vn V)
          · rw [if_pos (by omega), if_pos q]
            congr 2; omega
          · rw [if_neg (by omega), if_neg q]
            congr 2; omega
        unfold f_X12_halves_L76
        simp (disch := omega) only [bnd_nr, li_0, li_1, li_2, li_3, li_4, li_5, li_6, li_7, li_8, li_9, li_10, li_11, li_12, li_13, li_14, li_15, li_16, li_17, li_18, li_19, li_20, li_21, li_22, li_23, li_24, li_25, li_26, li_27, li_28, li_29, li_30, li_31, li_32, li_33, li_34, li_35, li_36, li_37, li_38, li_39, li_40, li_41, li_42, li_43, li_44, li_45, li_46, li_47, li_48, li_49, li_50, li_51, li_52, li_53, li_54, li_55, li_56, li_57, li_58, li_59, li_60, li_61, li_62, li_63, li_64, li_74, li_86, li_87, li_88, li_96, li_97, li_98, li_99, li_100, li_101, li_102, li_103, li_104, li_105, li_107, li_108, li_109, li_110, li_111, li_112, li_114, li_115, li_116, li_117, li_118, li_121, li_122, li_124, li_136, li_148, li_160, li_680, li_200, li_201, li_255, li_700, li_950, li_1000, li_1400, li_3440, li_4096, li_9999, li_10000, li_20000, li_20033, li_20038, li_20124, li_32767, li_65535, li_1103515245, li_12345, li_m, sx_grd, sx_clamp, nI_add, sx_sub, pk_mul, sx_le, sx_lt, sx_eq, sx_eqm, sx_meq, sx_lem, sx_mle, sx_ltm, sx_mlt, sx_addm, sx_shl, sx_bit1, sx_bit0, fa_or, uA_s, uA_n, sA_s, sA_n, sx_uA, sx_uAn, sx_sAs, pk_us, pk_un, if_true, if_false, if_pos, if_neg, ob_some, Nat.add_zero, Nat.add_sub_cancel, eq_self, ne_eq, not_true, not_false_iff, false_or, true_or, or_false, or_true, false_and, true_and, and_false, and_true, v.1, ap]
        rcases h with ⟨h1, h2, h3⟩ | ⟨j, j1, j2, j3, j4⟩
        · subst h3
          simp (disch := omega) only [bnd_nr, li_0, li_1, li_2, li_3, li_4, li_5, li_6, li_7, li_8, li_9, li_10, li_11, li_12, li_13, li_14, li_15, li_16, li_17, li_18, li_19, li_20, li_21, li_22, li_23, li_24, li_25, li_26, li_27, li_28, li_29, li_30, li_31, li_32, li_33, li_34, li_35, li_36, li_37, li_38, li_39, li_40, li_41, li_42, li_43, li_44, li_45, li_46, li_47, li_48, li_49, li_50, li_51, li_52, li_53, li_54, li_55, li_56, li_57, li_58, li_59, li_60, li_61, li_62, li_63, li_64, li_74, li_86, li_87, li_88, li_96, li_97, li_98, li_99, li_100, li_101, li_102, li_103, li_104, li_105, li_107, li_108, li_109, li_110, li_111, li_112, li_114, li_115, li_116, li_117, li_118, li_121, li_122, li_124, li_136, li_148, li_160, li_680, li_200, li_201, li_255, li_700, li_950, li_1000, li_1400, li_3440, li_4096, li_9999, li_10000, li_20000, li_20033, li_20038, li_20124, li_32767, li_65535, li_1103515245, li_12345, li_m, sx_grd, sx_clamp, nI_add, sx_sub, pk_mul, sx_le, sx_lt, sx_eq, sx_eqm, sx_meq, sx_lem, sx_mle, sx_ltm, sx_mlt, sx_addm, sx_shl, sx_bit1, sx_bit0, fa_or, uA_s, uA_n, sA_s, sA_n, sx_uA, sx_uAn, sx_sAs, pk_us, pk_un, if_true, if_false, if_pos, if_neg, ob_some, Nat.add_zero, Nat.add_sub_cancel, eq_self, ne_eq, not_true, not_false_iff, false_or, true_or, or_false, or_true, false_and, true_and, and_false, and_true]
          exact nx9 _ _ (HB_step (Or.inl ⟨h1, h2, rfl⟩) (Or.inl h1) hl)
        · have q2 := hl (2 * j + 1)
          have h9 : HB V i l3 l4 9999 := Or.inr ⟨j, j1, j2, j3, j4⟩
          subst j3
          simp (disch := omega) only [bnd_nr, li_0, li_1, li_2, li_3, li_4, li_5, li_6, li_7, li_8, li_9, li_10, li_11, li_12, li_13, li_14, li_15, li_16, li_17, li_18, li_19, li_20, li_21, li_22, li_23, li_24, li_25, li_26, li_27, li_28, li_29, li_30, li_31, li_32, li_33, li_34, li_35, li_36, li_37, li_38, li_39, li_40, li_41, li_42, li_43, li_44, li_45, li_46, li_47, li_48, li_49, li_50, li_51, li_52, li_53, li_54, li_55, li_56, li_57, li_58, li_59, li_60, li_61, li_62, li_63, li_64, li_74, li_86, li_87, li_88, li_96, li_97, li_98, li_99, li_100, li_101, li_102, li_103, li_104, li_105, li_107, li_108, li_109, li_110, li_111, li_112, li_114, li_115, li_116, li_117, li_118, li_121, li_122, li_124, li_136, li_148, li_160, li_680, li_200, li_201, li_255, li_700, li_950, li_1000, li_1400, li_3440, li_4096, li_9999, li_10000, li_20000, li_20033, li_20038, li_20124, li_32767, li_65535, li_1103515245, li_12345, li_m, sx_grd, sx_clamp, nI_add, sx_sub, pk_mul, sx_le, sx_lt, sx_eq, sx_eqm, sx_meq, sx_lem, sx_mle, sx_ltm, sx_mlt, sx_addm, sx_shl, sx_bit1, sx_bit0, fa_or, uA_s, uA_n, sA_s, sA_n, sx_uA, sx_uAn, sx_sAs, pk_us, pk_un, if_true, if_false, if_pos, if_neg, ob_some, Nat.add_zero, Nat.add_sub_cancel, eq_self, ne_eq, not_true, not_false_iff, false_or, true_or, or_false, or_true, false_and, true_and, and_false, and_true]
          refine RT.ite (fun d => nx9 _ _ (HB_step h9 (Or.inr ⟨j, rfl, by omega⟩) hl)) (fun d => nx9 _ _ (HB_stay h9 (fun j9 e9 => ?_) (by omega)))
          have q3 := hl (2 * j9 + 1)
          rw [nI_eq (by omega) (by omega)] at e9
          omega
      · intro n2 p l6 hp e6 hk2
        show RT (f_X12_halves_L76 (f_X12_halves_L59 x (nI (fb_sm (rk V) (vn V))) M n) x (nI (fb_sm (rk V) (vn V))) l3 l4 (nI (2 * i + 1)) M (n2 + 1) l6 (nI p)) _
        unfold f_X12_halves_L76
        simp (disch := omega) only [bnd_nr, li_0, li_1, li_2, li_3, li_4, li_5, li_6, li_7, li_8, li_9, li_10, li_11, li_12, li_13, li_14, li_15, li_16, li_17, li_18, li_19, li_20, li_21, li_22, li_23, li_24, li_25, li_26, li_27, li_28, li_29, li_30, li_31, li_32, li_33, li_34, li_35, li_36, li_37, li_38, li_39, li_40, li_41, li_42, li_43, li_44, li_45, li_46, li_47, li_48, li_49, li_50, li_51, li_52, li_53, li_54, li_55, li_56, li_57, li_58, li_59, li_60, li_61, li_62, li_63, li_64, li_74, li_86, li_87, li_88, li_96, li_97, li_98, li_99, li_100, li_101, li_102, li_103, li_104, li_105, li_107, li_108, li_109, li_110, li_111, li_112, li_114, li_115, li_116, li_117, li_118, li_121, li_122, li_124, li_136, li_148, li_160, li_680, li_200, li_201, li_255, li_700, li_950, li_1000, li_1400, li_3440, li_4096, li_9999, li_10000, li_20000, li_20033, li_20038, li_20124, li_32767, li_65535, li_1103515245, li_12345, li_m, sx_grd, sx_clamp, nI_add, sx_sub, pk_mul, sx_le, sx_lt, sx_eq, sx_eqm, sx_meq, sx_lem, sx_mle, sx_ltm, sx_mlt, sx_addm, sx_shl, sx_bit1, sx_bit0, fa_or, uA_s, uA_n, sA_s, sA_n, sx_uA, sx_uAn, sx_sAs, pk_us, pk_un, if_true, if_false, if_pos, if_neg, ob_some, Nat.add_zero, Nat.add_sub_cancel, eq_self, ne_eq, not_true, not_false_iff, false_or, true_or, or_false, or_true, false_and, true_and, and_false, and_true, v.1, rv p hp, sx_bit, e6]
        refine hk2 _ ?_
        unfold inS
        rw [fb_sm_succ]
        congr 2
        split <;> omega
  · intro n i l2 hi e hk
    show RT (f_X12_halves_L28 x (nI 0) (nI 9999) M (n + 1) l2 (nI i)) _
    unfold f_X12_halves_L28
    simp (disch := omega) only [bnd_nr, li_0, li_1, li_2, li_3, li_4, li_5, li_6, li_7, li_8, li_9, li_10, li_11, li_12, li_13, li_14, li_15, li_16, li_17, li_18, li_19, li_20, li_21, li_22, li_23, li_24, li_25, li_26, li_27, li_28, li_29, li_30, li_31, li_32, li_33, li_34, li_35, li_36, li_37, li_38, li_39, li_40, li_41, li_42, li_43, li_44, li_45, li_46, li_47, li_48, li_49, li_50, li_51, li_52, li_53, li_54, li_55, li_56, li_57, li_58, li_59, li_60, li_61, li_62, li_63, li_64, li_74, li_86, li_87, li_88, li_96, li_97, li_98, li_99, li_100, li_101, li_102, li_103, li_104, li_105, li_107, li_108, li_109, li_110, li_111, li_112, li_114, li_115, li_116, li_117, li_118, li_121, li_122, li_124, li_136, li_148, li_160, li_680, li_200, li_201, li_255, li_700, li_950, li_1000, li_1400, li_3440, li_4096, li_9999, li_10000, li_20000, li_20033, li_20038, li_20124, li_32767, li_65535, li_1103515245, li_12345, li_m, sx_grd, sx_clamp, nI_add, sx_sub, pk_mul, sx_le, sx_lt, sx_eq, sx_eqm, sx_meq, sx_lem, sx_mle, sx_ltm, sx_mlt, sx_addm, sx_shl, sx_bit1, sx_bit0, fa_or, uA_s, uA_n, sA_s, sA_n, sx_uA, sx_uAn, sx_sAs, pk_us, pk_un, if_true, if_false, if_pos, if_neg, ob_some, Nat.add_zero, Nat.add_sub_cancel, eq_self, ne_eq, not_true, not_false_iff, false_or, true_or, or_false, or_true, false_and, true_and, and_false, and_true, v.1, rv i hi, e]
    exact hk _ rfl
