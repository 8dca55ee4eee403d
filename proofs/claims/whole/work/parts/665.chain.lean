/-! chains of friends -/
def nbB (F : FD) (i S q : Nat) : Bool := decide (0 < fb_ct (fun k => (S.testBit (F.2.1 k) && decide (F.2.2 k = q)) || (S.testBit (F.2.2 k) && decide (F.2.1 k = q))) i)
theorem nbB_iff {F : FD} {i S q : Nat} : nbB F i S q = true ↔ ∃ k, k < i ∧ ((S.testBit (F.2.1 k) = true ∧ F.2.2 k = q) ∨ (S.testBit (F.2.2 k) = true ∧ F.2.1 k = q)) := by
  unfold nbB
  rw [decide_eq_true_eq, fb_ct_pos]
  simp only [Bool.or_eq_true, Bool.and_eq_true, decide_eq_true_eq]
def nxS (F : FD) (S : Nat) : Nat := S ||| msk (nbB F F.1 S) 12
def itS (F : FD) (p : Nat) : Nat → Nat | 0 => 2 ^ p | k + 1 => nxS F (itS F p k)
theorem nxS_lt {F : FD} {S : Nat} (h : S < 2 ^ 12) : nxS F S < 2 ^ 12 := Nat.or_lt_two_pow h (msk_lt _ _)
theorem itS_lt {F : FD} {p : Nat} (hp : p < 12) : ∀ k, itS F p k < 2 ^ 12
  | 0 => Nat.pow_lt_pow_right (by omega) hp
  | k + 1 => nxS_lt (itS_lt hp k)
theorem nxS_bit {F : FD} {S q : Nat} (hq : q < 12) : (nxS F S).testBit q = (S.testBit q || nbB F F.1 S q) := by
  unfold nxS
  rw [Nat.testBit_or, msk_bit, decide_eq_true hq, Bool.true_and]
theorem c_friendsOfAll {o : Ob} {F : FD} {n0 : Nat} (f : FC o F) (fk : FOK F n0) (h12 : n0 ≤ 12) {S : Nat} (hS : S < 2 ^ 12) : f_X3_friendsOfAll o (nI S) = some (nI (msk (nbB F F.1 S) 12)) := by
  have f0 := fk.1
  refine RT.eq ?_
  refine RT.cps (fun Q hQ => ?_)
  unfold f_X3_friendsOfAll
  refine RT.loop0 (fun n i (l2 : Int32) => f_X3_friendsOfAll_L4 (nI S) o n l2 (nI i)) F.1 (fun i l2 => ∃ m, l2 = nI m ∧ m < 2 ^ 12 ∧ ∀ q, q < 12 → m.testBit q = nbB F i S q) _ _ (by omega) ⟨0, rfl, by omega, fun q _ => by rw [Nat.zero_testBit]; rfl⟩ ?_ ?_
  · intro n l2 ⟨m, e, ml, mb⟩
    show RT (f_X3_friendsOfAll_L4 (nI S) o (n + 1) l2 (nI F.1)) _
    unfold f_X3_friendsOfAll_L4
    simp (disch := omega) only [bnd_nr, li_0, li_1, li_2, li_3, li_4, li_5, li_6, li_7, li_8, li_9, li_10, li_11, li_12, li_13, li_14, li_15, li_16, li_17, li_18, li_19, li_20, li_21, li_22, li_23, li_24, li_25, li_26, li_27, li_28, li_29, li_30, li_31, li_32, li_33, li_34, li_35, li_36, li_37, li_38, li_39, li_40, li_41, li_42, li_43, li_44, li_45, li_46, li_47, li_48, li_49, li_50, li_51, li_52, li_53, li_54, li_55, li_56, li_57, li_58, li_59, li_60, li_61, li_62, li_63, li_64, li_74, li_86, li_87, li_88, li_96, li_97, li_98, li_99, li_100, li_101, li_102, li_103, li_104, li_105, li_107, li_108, li_109, li_110, li_111, li_112, li_114, li_115, li_116, li_117, li_118, li_121, li_122, li_124, li_136, li_148, li_160, li_680, li_200, li_201, li_255, li_700, li_950, li_1000, li_1400, li_3440, li_4096, li_9999, li_10000, li_20000, li_20033, li_20038, li_20124, li_32767, li_65535, li_1103515245, li_12345, li_m, sx_grd, sx_clamp, nI_add, sx_sub, pk_mul, sx_le, sx_lt, sx_eq, sx_eqm, sx_meq, sx_lem, sx_mle, sx_ltm, sx_mlt, sx_addm, sx_shl, sx_bit1, sx_bit0, fa_or, uA_s, uA_n, sA_s, sA_n, sx_uA, sx_uAn, sx_sAs, pk_us, pk_un, if_true, if_false, if_pos, if_neg, ob_some, Nat.add_zero, Nat.add_sub_cancel, eq_self, ne_eq, not_true, not_false_iff, false_or, true_or, or_false, or_true, false_and, true_and, and_false, and_true, f.1]
    exact RT.done hQ (by rw [e, mask_eq ml mb])
  · intro n i l2 hi ⟨m, e, ml, mb⟩ hk
    show RT (f_X3_friendsOfAll_L4 (nI S) o (n + 1) l2 (nI i)) _
    have fi := f.2 i hi
    have fb := fk.2 i hi
    have pw : ∀ x, x < 12 → 2 ^ x < 2 ^ 12 := fun x hx => Nat.pow_lt_pow_right (by omega) hx
    have old : ∀ q, q < 12 → (nbB F (i + 1) S q = true ↔ nbB F i S q = true ∨ ((S.testBit (F.2.1 i) = true ∧ F.2.2 i = q) ∨ (S.testBit (F.2.2 i) = true ∧ F.2.1 i = q))) := by
      intro q _
      rw [nbB_iff, nbB_iff]
      constructor
      · rintro ⟨k, k1, k2⟩
        by_cases ki : k = i
        · subst ki; exact Or.inr k2
        · exact Or.inl ⟨k, by omega, k2⟩
      · rintro (⟨k, k1, k2⟩ | z)
        · exact ⟨k, by omega, k2⟩
        · exact ⟨i, by omega, z⟩
    have step : ∀ y, y < 2 ^ 12 → (∀ q, q < 12 → (y.testBit q = true ↔ nbB F i S q = true ∨ (S.testBit (F.2.1 i) = true ∧ F.2.2 i = q))) → RT (f_X3_friendsOfAll_J36 (f_X3_friendsOfAll_L4 (nI S) o n) (nI S) o (nI y) (nI i)) Q := by
      intro y yl yb
      unfold f_X3_friendsOfAll_J36
      simp (disch := omega) only [bnd_nr, li_0, li_1, li_2, li_3, li_4, li_5, li_6, li_7, li_8, li_9, li_10, li_11, li_12, li_13, li_14, li_15, li_16, li_17, li_18, li_19, li_20, li_21, li_22, li_23, li_24, li_25, li_26, li_27, li_28, li_29, li_30, li_31, li_32, li_33, li_34, li_35, li_36, li_37, li_38, li_39, li_40, li_41, li_42, li_43, li_44, li_45, li_46, li_47, li_48, li_49, li_50, li_51, li_52, li_53, li_54, li_55, li_56, li_57, li_58, li_59, li_60, li_61, li_62, li_63, li_64, li_74, li_86, li_87, li_88, li_96, li_97, li_98, li_99, li_100, li_101, li_102, li_103, li_104, li_105, li_107, li_108, li_109, li_110, li_111, li_112, li_114, li_115, li_116, li_117, li_118, li_121, li_122, li_124, li_136, li_148, li_160, li_680, li_200, li_201, li_255, li_700, li_950, li_1000, li_1400, li_3440, li_4096, li_9999, li_10000, li_20000, li_20033, li_20038, li_20124, li_32767, li_65535, li_1103515245, li_12345, li_m, sx_grd, sx_clamp, nI_add, sx_sub, pk_mul, sx_le, sx_lt, sx_eq, sx_eqm, sx_meq, sx_lem, sx_mle, sx_ltm, sx_mlt, sx_addm, sx_shl, sx_bit1, sx_bit0, fa_or, uA_s, uA_n, sA_s, sA_n, sx_uA, sx_uAn, sx_sAs, pk_us, pk_un, if_true, if_false, if_pos, if_neg, ob_some, Nat.add_zero, Nat.add_sub_cancel, eq_self, ne_eq, not_true, not_false_iff, false_or, true_or, or_false, or_true, false_and, true_and, and_false, and_true, fi.1, fi.2]
      refine RT.ite (fun d => hk _ ⟨_, rfl, yl, fun q hq => bool_eq ?_⟩) (fun d => hk _ ⟨_, rfl, Nat.or_lt_two_pow yl (pw _ (by omega)), fun q hq => bool_eq ?_⟩)
      · rw [yb q hq, old q hq]
        constructor
        · rintro (z | z)
          · exact Or.inl z
          · exact Or.inr (Or.inl z)
        · rintro (z | z | z)
          · exact Or.inl z
          · exact Or.inr z
          · rw [d] at z; exact absurd z.1 (by decide)
      · have d := ts_nf d
        rw [Nat.testBit_or, Nat.testBit_two_pow, Bool.or_eq_true, yb q hq, old q hq, decide_eq_true_eq]
        constructor
        · rintro ((z | z) | z)
          · exact Or.inl z
          · exact Or.inr (Or.inl z)
          · exact Or.inr (Or.inr ⟨d, z⟩)
        · rintro (z | z | z)
          · exact Or.inl (Or.inl z)
          · exact Or.inl (Or.inr z)
          · exact Or.inr z.2
    unfold f_X3_friendsOfAll_L4
    simp (disch := omega) only [bnd_nr, li_0, li_1, li_2, li_3, li_4, li_5, li_6, li_7, li_8, li_9, li_10, li_11, li_12, li_13, li_14, li_15, li_16, li_17, li_18, li_19, li_20, li_21, li_22, li_23, li_24, li_25, li_26, li_27, li_28, li_29, li_30, li_31, li_32, li_33, li_34, li_35, li_36, li_37, li_38, li_39, li_40, li_41, li_42, li_43, li_44, li_45, li_46, li_47, li_48, li_49, li_50, li_51, li_52, li_53, li_54, li_55, li_56, li_57, li_58, li_59, li_60, li_61, li_62, li_63, li_64, li_74, li_86, li_87, li_88, li_96, li_97, li_98, li_99, li_100, li_101, li_102, li_103, li_104, li_105, li_107, li_108, li_109, li_110, li_111, li_112, li_114, li_115, li_116, li_117, li_118, li_121, li_122, li_124, li_136, li_148, li_160, li_680, li_200, li_201, li_255, li_700, li_950, li_1000, li_1400, li_3440, li_4096, li_9999, li_10000, li_20000, li_20033, li_20038, li_20124, li_32767, li_65535, li_1103515245, li_12345, li_m, sx_grd, sx_clamp, nI_add, sx_sub, pk_mul, sx_le, sx_lt, sx_eq, sx_eqm, sx_meq, sx_lem, sx_mle, sx_ltm, sx_mlt, sx_addm, sx_shl, sx_bit1, sx_bit0, fa_or, uA_s, uA_n, sA_s, sA_n, sx_uA, sx_uAn, sx_sAs, pk_us, pk_un, if_true, if_false, if_pos, if_neg, ob_some, Nat.add_zero, Nat.add_sub_cancel, eq_self, ne_eq, not_true, not_false_iff, false_or, true_or, or_false, or_true, false_and, true_and, and_false, and_true, f.1, fi.1, fi.2, e]
    refine RT.ite (fun d => step m ml (fun q hq => ?_)) (fun d => step _ (Nat.or_lt_two_pow ml (pw _ (by omega))) (fun q hq => ?_))
    · rw [mb q hq]
      constructor
      · exact fun z => Or.inl z
      · rintro (z | z)
        · exact z
        · rw [d] at z; exact absurd z.1 (by decide)
    · have d := ts_nf d
      rw [Nat.testBit_or, Nat.testBit_two_pow, Bool.or_eq_true, mb q hq, decide_eq_true_eq]
      constructor
      · rintro (z | z)
        · exact Or.inl z
        · exact Or.inr ⟨d, z⟩
      · rintro (z | z)
        · exact Or.inl z
        · exact Or.inr z.2
/-- the first step at which o is reached, within so many -/
def CHN (F : FD) (p o lim : Nat) (r : Int32) : Prop := (r = mO ∧ ∀ k, k < lim → (itS F p k).testBit o = false) ∨ ∃ k, k < lim ∧ r = nI k ∧ (itS F p k).testBit o = true ∧ ∀ j, j < k → (itS F p j).testBit o = false
theorem c_steps {o : Ob} {F : FD} {n0 : Nat} (f : FC o F) (fk : FOK F n0) (h12 : n0 ≤ 12) {p q : Nat} (hp : p < n0) (hq : q < n0) : RT (f_X3_stepsBetween o (nI p) (nI q)) (CHN F p q 12) := by
  refine RT.cps (fun Q hQ => ?_)
  unfold f_X3_stepsBetween
  simp (disch := omega) only [bnd_nr, li_0, li_1, li_2, li_3, li_4, li_5, li_6, li_7, li_8, li_9, li_10, li_11, li_12, li_13, li_14, li_15, li_16, li_17, li_18, li_19, li_20, li_21, li_22, li_23, li_24, li_25, li_26, li_27, li_28, li_29, li_30, li_31, li_32, li_33, li_34, li_35, li_36, li_37, li_38, li_39, li_40, li_41, li_42, li_43, li_44, li_45, li_46, li_47, li_48, li_49, li_50, li_51, li_52, li_53, li_54, li_55, li_56, li_57, li_58, li_59, li_60, li_61, li_62, li_63, li_64, li_74, li_86, li_87, li_88, li_96, li_97, li_98, li_99, li_100, li_101, li_102, li_103, li_104, li_105, li_107, li_108, li_109, li_110, li_111, li_112, li_114, li_115, li_116, li_117, li_118, li_121, li_122, li_124, li_136, li_148, li_160, li_680, li_200, li_201, li_255, li_700, li_950, li_1000, li_1400, li_3440, li_4096, li_9999, li_10000, li_20000, li_20033, li_20038, li_20124, li_32767, li_65535, li_1103515245, li_12345, li_m, sx_grd, sx_clamp, nI_add, sx_sub, pk_mul, sx_le, sx_lt, sx_eq, sx_eqm, sx_meq, sx_lem, sx_mle, sx_ltm, sx_mlt, sx_addm, sx_shl, sx_bit1, sx_bit0, fa_or, uA_s, uA_n, sA_s, sA_n, sx_uA, sx_uAn, sx_sAs, pk_us, pk_un, if_true, if_false, if_pos, if_neg, ob_some, Nat.add_zero, Nat.add_sub_cancel, eq_self, ne_eq, not_true, not_false_iff, false_or, true_or, or_false, or_true, false_and, true_and, and_false, and_true]
  refine RT.loop0 (fun n i (l3 : Int32) => f_X3_stepsBetween_L7 (nI q) o n l3 (nI i)) 12 (fun i l3 => l3 = nI (itS F p i) ∧ ∀ j, j < i → (itS F p j).testBit q = false) _ _ (by omega) ⟨rfl, fun j hj => absurd hj (Nat.not_lt_zero _)⟩ ?_ ?_
  · intro n l3 ⟨e1, e2⟩
    show RT (f_X3_stepsBetween_L7 (nI q) o (n + 1) l3 (nI 12)) _
    unfold f_X3_stepsBetween_L7
    simp (disch := omega) only [bnd_nr, li_0, li_1, li_2, li_3, li_4, li_5, li_6, li_7, li_8, li_9, li_10, li_11, li_12, li_13, li_14, li_15, li_16, li_17, li_18, li_19, li_20, li_21, li_22, li_23, li_24, li_25, li_26, li_27, li_28, li_29, li_30, li_31, li_32, li_33, li_34, li_35, li_36, li_37, li_38, li_39, li_40, li_41, li_42, li_43, li_44, li_45, li_46, li_47, li_48, li_49, li_50, li_51, li_52, li_53, li_54, li_55, li_56, li_57, li_58, li_59, li_60, li_61, li_62, li_63, li_64, li_74, li_86, li_87, li_88, li_96, li_97, li_98, li_99, li_100, li_101, li_102, li_103, li_104, li_105, li_107, li_108, li_109, li_110, li_111, li_112, li_114, li_115, li_116, li_117, li_118, li_121, li_122, li_124, li_136, li_148, li_160, li_680, li_200, li_201, li_255, li_700, li_950, li_1000, li_1400, li_3440, li_4096, li_9999, li_10000, li_20000, li_20033, li_20038, li_20124, li_32767, li_65535, li_1103515245, li_12345, li_m, sx_grd, sx_clamp, nI_add, sx_sub, pk_mul, sx_le, sx_lt, sx_eq, sx_eqm, sx_meq, sx_lem, sx_mle, sx_ltm, sx_mlt, sx_addm, sx_shl, sx_bit1, sx_bit0, fa_or, uA_s, uA_n, sA_s, sA_n, sx_uA, sx_uAn, sx_sAs, pk_us, pk_un, if_true, if_false, if_pos, if_neg, ob_some, Nat.add_zero, Nat.add_sub_cancel, eq_self, ne_eq, not_true, not_false_iff, false_or, true_or, or_false, or_true, false_and, true_and, and_false, and_true]
    exact RT.done hQ (Or.inl ⟨rfl, e2⟩)
  · intro n i l3 hi ⟨e1, e2⟩ hk
    show RT (f_X3_stepsBetween_L7 (nI q) o (n + 1) l3 (nI i)) _
    have l := itS_lt (F := F) (show p < 12 by omega) i
    unfold f_X3_stepsBetween_L7
    simp (disch := omega) only [bnd_nr, li_0, li_1, li_2, li_3, li_4, li_5, li_6, li_7, li_8, li_9, li_10, li_11, li_12, li_13, li_14, li_15, li_16, li_17, li_18, li_19, li_20, li_21, li_22, li_23, li_24, li_25, li_26, li_27, li_28, li_29, li_30, li_31, li_32, li_33, li_34, li_35, li_36, li_37, li_38, li_39, li_40, li_41, li_42, li_43, li_44, li_45, li_46, li_47, li_48, li_49, li_50, li_51, li_52, li_53, li_54, li_55, li_56, li_57, li_58, li_59, li_60, li_61, li_62, li_63, li_64, li_74, li_86, li_87, li_88, li_96, li_97, li_98, li_99, li_100, li_101, li_102, li_103, li_104, li_105, li_107, li_108, li_109, li_110, li_111, li_112, li_114, li_115, li_116, li_117, li_118, li_121, li_122, li_124, li_136, li_148, li_160, li_680, li_200, li_201, li_255, li_700, li_950, li_1000, li_1400, li_3440, li_4096, li_9999, li_10000, li_20000, li_20033, li_20038, li_20124, li_32767, li_65535, li_1103515245, li_12345, li_m, sx_grd, sx_clamp, nI_add, sx_sub, pk_mul, sx_le, sx_lt, sx_eq, sx_eqm, sx_meq, sx_lem, sx_mle, sx_ltm, sx_mlt, sx_addm, sx_shl, sx_bit1, sx_bit0, fa_or, uA_s, uA_n, sA_s, sA_n, sx_uA, sx_uAn, sx_sAs, pk_us, pk_un, if_true, if_false, if_pos, if_neg, ob_some, Nat.add_zero, Nat.add_sub_cancel, eq_self, ne_eq, not_true, not_false_iff, false_or, true_or, or_false, or_true, false_and, true_and, and_false, and_true, e1, c_friendsOfAll f fk h12 l]
    refine RT.ite (fun d => hk _ ⟨rfl, fun j hj => ?_⟩) (fun d => RT.done hQ (Or.inr ⟨i, hi, rfl, ts_nf d, e2⟩))
    by_cases ji : j = i
    · subst ji; exact d
    · exact e2 j (by omega)
theorem m_chain0 {M : MS} {F : FD} {n : Nat} (f : FM M F) (fk : FOK F n) (h12 : n ≤ 12) (hn : M.1 1 = nI n) {p q : Nat} (hp : p < n) (hq : q < n) : RT (f_X12_chain_L30 (nI q) M FUEL (nI (2 ^ p)) (nI 0)) (fun r => CHN F p q (n + 1) r.1 ∧ r.2 = M) := by
  refine RT.cps (fun Q hQ => ?_)
  refine RT.loop0 (fun m i (l3 : Int32) => f_X12_chain_L30 (nI q) M m l3 (nI i)) (n + 1) (fun i l3 => l3 = nI (itS F p i) ∧ ∀ j, j < i → (itS F p j).testBit q = false) _ _ (by omega) ⟨rfl, fun j hj => absurd hj (Nat.not_lt_zero _)⟩ ?_ ?_
  · intro m l3 ⟨e1, e2⟩
    show RT (f_X12_chain_L30 (nI q) M (m + 1) l3 (nI (n + 1))) _
    unfold f_X12_chain_L30
    simp (disch := omega) only [bnd_nr, li_0, li_1, li_2, li_3, li_4, li_5, li_6, li_7, li_8, li_9, li_10, li_11, li_12, li_13, li_14, li_15, li_16, li_17, li_18, li_19, li_20, li_21, li_22, li_23, li_24, li_25, li_26, li_27, li_28, li_29, li_30, li_31, li_32, li_33, li_34, li_35, li_36, li_37, li_38, li_39, li_40, li_41, li_42, li_43, li_44, li_45, li_46, li_47, li_48, li_49, li_50, li_51, li_52, li_53, li_54, li_55, li_56, li_57, li_58, li_59, li_60, li_61, li_62, li_63, li_64, li_74, li_86, li_87, li_88, li_96, li_97, li_98, li_99, li_100, li_101, li_102, li_103, li_104, li_105, li_107, li_108, li_109, li_110, li_111, li_112, li_114, li_115, li_116, li_117, li_118, li_121, li_122, li_124, li_136, li_148, li_160, li_680, li_200, li_201, li_255, li_700, li_950, li_1000, li_1400, li_3440, li_4096, li_9999, li_10000, li_20000, li_20033, li_20038, li_20124, li_32767, li_65535, li_1103515245, li_12345, li_m, sx_grd, sx_clamp, nI_add, sx_sub, pk_mul, sx_le, sx_lt, sx_eq, sx_eqm, sx_meq, sx_lem, sx_mle, sx_ltm, sx_mlt, sx_addm, sx_shl, sx_bit1, sx_bit0, fa_or, uA_s, uA_n, sA_s, sA_n, sx_uA, sx_uAn, sx_sAs, pk_us, pk_un, if_true, if_false, if_pos, if_neg, ob_some, Nat.add_zero, Nat.add_sub_cancel, eq_self, ne_eq, not_true, not_false_iff, false_or, true_or, or_false, or_true, false_and, true_and, and_false, and_true, hn]
    exact RT.done hQ ⟨Or.inl ⟨rfl, e2⟩, rfl⟩
  · intro m i l3 hi ⟨e1, e2⟩ hk
    show RT (f_X12_chain_L30 (nI q) M (m + 1) l3 (nI i)) _
    have l := itS_lt (F := F) (show p < 12 by omega) i
    unfold f_X12_chain_L30
    simp (disch := omega) only [bnd_nr, li_0, li_1, li_2, li_3, li_4, li_5, li_6, li_7, li_8, li_9, li_10, li_11, li_12, li_13, li_14, li_15, li_16, li_17, li_18, li_19, li_20, li_21, li_22, li_23, li_24, li_25, li_26, li_27, li_28, li_29, li_30, li_31, li_32, li_33, li_34, li_35, li_36, li_37, li_38, li_39, li_40, li_41, li_42, li_43, li_44, li_45, li_46, li_47, li_48, li_49, li_50, li_51, li_52, li_53, li_54, li_55, li_56, li_57, li_58, li_59, li_60, li_61, li_62, li_63, li_64, li_74, li_86, li_87, li_88, li_96, li_97, li_98, li_99, li_100, li_101, li_102, li_103, li_104, li_105, li_107, li_108, li_109, li_110, li_111, li_112, li_114, li_115, li_116, li_117, li_118, li_121, li_122, li_124, li_136, li_148, li_160, li_680, li_200, li_201, li_255, li_700, li_950, li_1000, li_1400, li_3440, li_4096, li_9999, li_10000, li_20000, li_20033, li_20038, li_20124, li_32767, li_65535, li_1103515245, li_12345, li_m, sx_grd, sx_clamp, nI_add, sx_sub, pk_mul, sx_le, sx_lt, sx_eq, sx_eqm, sx_meq, sx_lem, sx_mle, sx_ltm, sx_mlt, sx_addm, sx_shl, sx_bit1, sx_bit0, fa_or, uA_s, uA_n, sA_s, sA_n, sx_uA, sx_uAn, sx_sAs, pk_us, pk_un, if_true, if_false, if_pos, if_neg, ob_some, Nat.add_zero, Nat.add_sub_cancel, eq_self, ne_eq, not_true, not_false_iff, false_or, true_or, or_false, or_true, false_and, true_and, and_false, and_true, hn, e1]
    refine RT.ite (fun d => RT.done hQ ⟨Or.inr ⟨i, hi, rfl, d, e2⟩, rfl⟩) (fun d => ?_)
    refine RT.loop0 (fun m2 x (l5 : Int32) => f_X12_chain_L57 (f_X12_chain_L30 (nI q) M m) (nI q) (nI (itS F p i)) (nI i) M m2 l5 (nI x)) n (fun x l5 => ∃ y, l5 = nI y ∧ y < 2 ^ 12 ∧ ∀ r, r < 12 → (y.testBit r = true ↔ (itS F p i).testBit r = true ∨ ∃ k, k < F.1 ∧ (((itS F p i).testBit (F.2.1 k) = true ∧ F.2.1 k < x ∧ F.2.2 k = r) ∨ ((itS F p i).testBit (F.2.2 k) = true ∧ F.2.2 k < x ∧ F.2.1 k = r)))) _ _ (by omega) ⟨_, rfl, l, fun r _ => ?_⟩ ?_ ?_
    · constructor
      · exact fun z => Or.inl z
      · rintro (z | ⟨k, _, ⟨_, z, _⟩ | ⟨_, z, _⟩⟩)
        · exact z
        · exact absurd z (Nat.not_lt_zero _)
        · exact absurd z (Nat.not_lt_zero _)
    · intro m2 l5 ⟨y, ey, yl, yb⟩
      show RT (f_X12_chain_L57 (f_X12_chain_L30 (nI q) M m) (nI q) (nI (itS F p i)) (nI i) M (m2 + 1) l5 (nI n)) _
      unfold f_X12_chain_L57
      simp (disch := omega) only [bnd_nr, li_0, li_1, li_2, li_3, li_4, li_5, li_6, li_7, li_8, li_9, li_10, li_11, li_12, li_13, li_14, li_15, li_16, li_17, li_18, li_19, li_20, li_21, li_22, li_23, li_24, li_25, li_26, li_27, li_28, li_29, li_30, li_31, li_32, li_33, li_34, li_35, li_36, li_37, li_38, li_39, li_40, li_41, li_42, li_43, li_44, li_45, li_46, li_47, li_48, li_49, li_50, li_51, li_52, li_53, li_54, li_55, li_56, li_57, li_58, li_59, li_60, li_61, li_62, li_63, li_64, li_74, li_86, li_87, li_88, li_96, li_97, li_98, li_99, li_100, li_101, li_102, li_103, li_104, li_105, li_107, li_108, li_109, li_110, li_111, li_112, li_114, li_115, li_116, li_117, li_118, li_121, li_122, li_124, li_136, li_148, li_160, li_680, li_200, li_201, li_255, li_700, li_950, li_1000, li_1400, li_3440, li_4096, li_9999, li_10000, li_20000, li_20033, li_20038, li_20124, li_32767, li_65535, li_1103515245, li_12345, li_m, sx_grd, sx_clamp, nI_add, sx_sub, pk_mul, sx_le, sx_lt, sx_eq, sx_eqm, sx_meq, sx_lem, sx_mle, sx_ltm, sx_mlt, sx_addm, sx_shl, sx_bit1, sx_bit0, fa_or, uA_s, uA_n, sA_s, sA_n, sx_uA, sx_uAn, sx_sAs, pk_us, pk_un, if_true, if_false, if_pos, if_neg, ob_some, Nat.add_zero, Nat.add_sub_cancel, eq_self, ne_eq, not_true, not_false_iff, false_or, true_or, or_false, or_true, false_and, true_and, and_false, and_true, hn, ey]
      refine hk _ ⟨congrArg nI (bit_ext (n := 12) yl (itS_lt (by omega) (i + 1)) (fun r hr => bool_eq ?_)), fun j hj => ?_⟩
      · rw [yb r hr, itS, nxS_bit hr, Bool.or_eq_true, nbB_iff]
        constructor
        · rintro (z | ⟨k, k1, ⟨a, _, c⟩ | ⟨a, _, c⟩⟩)
          · exact Or.inl z
          · exact Or.inr ⟨k, k1, Or.inl ⟨a, c⟩⟩
          · exact Or.inr ⟨k, k1, Or.inr ⟨a, c⟩⟩
        · rintro (z | ⟨k, k1, ⟨a, c⟩ | ⟨a, c⟩⟩)
          · exact Or.inl z
          · exact Or.inr ⟨k, k1, Or.inl ⟨a, (fk.2 k k1).1, c⟩⟩
          · exact Or.inr ⟨k, k1, Or.inr ⟨a, (fk.2 k k1).2.1, c⟩⟩
      · by_cases ji : j = i
        · subst ji; exact ts_nt d
        · exact e2 j (by omega)
    · intro m2 x l5 hx ⟨y, ey, yl, yb⟩ hk2
      show RT (f_X12_chain_L57 (f_X12_chain_L30 (nI q) M m) (nI q) (nI (itS F p i)) (nI i) M (m2 + 1) l5 (nI x)) _
      unfold f_X12_chain_L57
      simp (disch := omega) only [bnd_nr, li_0, li_1, li_2, li_3, li_4, li_5, li_6, li_7, li_8, li_9, li_10, li_11, li_12, li_13, li_14, li_15, li_16, li_17, li_18, li_19, li_20, li_21, li_22, li_23, li_24, li_25, li_26, li_27, li_28, li_29, li_30, li_31, li_32, li_33, li_34, li_35, li_36, li_37, li_38, li_39, li_40, li_41, li_42, li_43, li_44, li_45, li_46, li_47, li_48, li_49, li_50, li_51, li_52, li_53, li_54, li_55, li_56, li_57, li_58, li_59, li_60, li_61, li_62, li_63, li_64, li_74, li_86, li_87, li_88, li_96, li_97, li_98, li_99, li_100, li_101, li_102, li_103, li_104, li_105, li_107, li_108, li_109, li_110, li_111, li_112, li_114, li_115, li_116, li_117, li_118, li_121, li_122, li_124, li_136, li_148, li_160, li_680, li_200, li_201, li_255, li_700, li_950, li_1000, li_1400, li_3440, li_4096, li_9999, li_10000, li_20000, li_20033, li_20038, li_20124, li_32767, li_65535, li_1103515245, li_12345, li_m, sx_grd, sx_clamp, nI_add, sx_sub, pk_mul, sx_le, sx_lt, sx_eq, sx_eqm, sx_meq, sx_lem, sx_mle, sx_ltm, sx_mlt, sx_addm, sx_shl, sx_bit1, sx_bit0, fa_or, uA_s, uA_n, sA_s, sA_n, sx_uA, sx_uAn, sx_sAs, pk_us, pk_un, if_true, if_false, if_pos, if_neg, ob_some, Nat.add_zero, Nat.add_sub_cancel, eq_self, ne_eq, not_true, not_false_iff, false_or, true_or, or_false, or_true, false_and, true_and, and_false, and_true, hn, ey, m_friendsOf f fk h12 (show x < 2147483648 by omega)]
      refine RT.ite (fun d2 => hk2 _ ⟨_, rfl, Nat.or_lt_two_pow yl (msk_lt _ _), fun r hr => ?_⟩) (fun d2 => hk2 _ ⟨_, rfl, by rw [Nat.or_zero]; exact yl, fun r hr => ?_⟩)
      · unfold foM
        rw [Nat.testBit_or, msk_bit, decide_eq_true hr, Bool.true_and, Bool.or_eq_true, yb r hr, adB_iff]
        constructor
        · rintro ((z | ⟨k, k1, ⟨a, b, c⟩ | ⟨a, b, c⟩⟩) | ⟨k, k1, ⟨a, c⟩ | ⟨a, c⟩⟩)
          · exact Or.inl z
          · exact Or.inr ⟨k, k1, Or.inl ⟨a, by omega, c⟩⟩
          · exact Or.inr ⟨k, k1, Or.inr ⟨a, by omega, c⟩⟩
          · exact Or.inr ⟨k, k1, Or.inl ⟨by rw [a]; exact d2, by omega, c⟩⟩
          · exact Or.inr ⟨k, k1, Or.inr ⟨by rw [a]; exact d2, by omega, c⟩⟩
        · rintro (z | ⟨k, k1, ⟨a, b, c⟩ | ⟨a, b, c⟩⟩)
          · exact Or.inl (Or.inl z)
          · by_cases e9 : F.2.1 k = x
            · exact Or.inr ⟨k, k1, Or.inl ⟨e9, c⟩⟩
            · exact Or.inl (Or.inr ⟨k, k1, Or.inl ⟨a, by omega, c⟩⟩)
          · by_cases e9 : F.2.2 k = x
            · exact Or.inr ⟨k, k1, Or.inr ⟨e9, c⟩⟩
            · exact Or.inl (Or.inr ⟨k, k1, Or.inr ⟨a, by omega, c⟩⟩)
      · rw [Nat.or_zero, yb r hr]
        constructor
        · rintro (z | ⟨k, k1, ⟨a, b, c⟩ | ⟨a, b, c⟩⟩)
          · exact Or.inl z
          · exact Or.inr ⟨k, k1, Or.inl ⟨a, by omega, c⟩⟩
          · exact Or.inr ⟨k, k1, Or.inr ⟨a, by omega, c⟩⟩
        · rintro (z | ⟨k, k1, ⟨a, b, c⟩ | ⟨a, b, c⟩⟩)
          · exact Or.inl z
          · have : F.2.1 k ≠ x := fun e9 => d2 (by rw [← e9]; exact a)
            exact Or.inr ⟨k, k1, Or.inl ⟨a, by omega, c⟩⟩
          · have : F.2.2 k ≠ x := fun e9 => d2 (by rw [← e9]; exact a)
            exact Or.inr ⟨k, k1, Or.inr ⟨a, by omega, c⟩⟩
theorem ct_strict {P Q : Nat → Bool} {n k : Nat} (h : ∀ i, i < n → P i = true → Q i = true) (hk : k < n) (a : P k = false) (b : Q k = true) : fb_ct P n < fb_ct Q n := by
  have o := fb_ct_or (p := P) (q := fun i => Q i && !P i) (n := n) (fun i _ c => by
    have c1 := c.1
    have c2 := c.2
    rw [Bool.and_eq_true] at c2
    rw [c1] at c2
    exact absurd c2.2 (by decide))
  have e : fb_ct (fun i => P i || (Q i && !P i)) n = fb_ct Q n := fb_ct_cong (fun i hi => by
    cases p : P i
    · simp
    · simp [h i hi p])
  have z : 0 < fb_ct (fun i => Q i && !P i) n := fb_ct_pos.mpr ⟨k, hk, by simp [a, b]⟩
  omega
theorem itS_in {F : FD} {n p : Nat} (fk : FOK F n) (h12 : n ≤ 12) (hp : p < n) : ∀ k q, (itS F p k).testBit q = true → q < n
  | 0, q, h => by
    rw [itS, Nat.testBit_two_pow, decide_eq_true_eq] at h; omega
  | k + 1, q, h => by
    have l := itS_lt (F := F) (show p < 12 by omega) (k + 1)
    have hq : q < 12 := by
      rcases Nat.lt_or_ge q 12 with z | z
      · exact z
      · rw [Nat.testBit_lt_two_pow (Nat.lt_of_lt_of_le l (Nat.pow_le_pow_right (by omega) z))] at h; cases h
    rw [itS, nxS_bit hq, Bool.or_eq_true, nbB_iff] at h
    rcases h with z | ⟨j, j1, ⟨_, z⟩ | ⟨_, z⟩⟩
    · exact itS_in fk h12 hp k q z
    · rw [← z]; exact (fk.2 j j1).2.1
    · rw [← z]; exact (fk.2 j j1).1
theorem itS_up {F : FD} {p : Nat} (hp : p < 12) {k q : Nat} (h : (itS F p k).testBit q = true) : (itS F p (k + 1)).testBit q = true := by
  rw [itS]
  unfold nxS
  rw [Nat.testBit_or, h]; rfl
theorem itS_grow {F : FD} {n p o : Nat} (fk : FOK F n) (h12 : n ≤ 12) (hp : p < n) {k : Nat} (h : (itS F p k).testBit o = true) (first : ∀ j, j < k → (itS F p j).testBit o = false) : k + 1 ≤ n := by
  have g : ∀ j, j ≤ k → j + 1 ≤ pcn (itS F p j) := by
    intro j
    induction j with
    | zero =>
      intro _
      exact fb_ct_pos.mpr ⟨p, by omega, by rw [itS, Nat.testBit_two_pow]; exact decide_eq_true rfl⟩
    | succ j ih =>
      intro hj
      have ih := ih (by omega)
      by_cases e : itS F p (j + 1) = itS F p j
      · exfalso
        have st : ∀ d, itS F p (j + d) = itS F p j := by
          intro d
          induction d with
          | zero => rfl
          | succ d ih2 =>
            rw [← Nat.add_assoc, itS, ih2]
            exact e
        have := st (k - j)
        rw [show j + (k - j) = k by omega] at this
        rw [this, first j (by omega)] at h
        cases h
      · have ne : ∃ q, q < 12 ∧ (itS F p j).testBit q = false ∧ (itS F p (j + 1)).testBit q = true := by
          refine Classical.byContradiction (fun no => e (bit_ext (n := 12) (itS_lt (by omega) _) (itS_lt (by omega) _) (fun q hq => ?_)))
          cases a : (itS F p j).testBit q
          · cases b : (itS F p (j + 1)).testBit q
            · rfl
            · exact absurd ⟨q, hq, a, b⟩ no
          · exact itS_up (by omega) a
        obtain ⟨q, q1, q2, q3⟩ := ne
        have := ct_strict (P := fun i => (itS F p j).testBit i) (Q := fun i => (itS F p (j + 1)).testBit i) (n := 13) (fun i _ hi => itS_up (by omega) hi) (show q < 13 by omega) q2 q3
        unfold pcn at ih ⊢
        omega
  have a := g k (Nat.le_refl _)
  have b : pcn (itS F p k) ≤ n := by
    have s : fb_ct (fun i => (itS F p k).testBit i) 13 ≤ fb_ct (fun i => decide (i < n)) 13 := fb_ct_sub (fun i _ hi => decide_eq_true (itS_in fk h12 hp k i hi))
    have c : fb_ct (fun i => decide (i < n)) 13 = n := by
      obtain ⟨d, hd⟩ : ∃ d, 13 = n + d := ⟨13 - n, by omega⟩
      rw [hd, fb_ct_split]
      have x : fb_ct (fun i => decide (i < n)) n = n := fb_ct_all.mpr (fun i hi => decide_eq_true hi)
      have y : fb_ct (fun k => decide (n + k < n)) d = 0 := fb_ct_zero.mpr (fun i _ => decide_eq_false (by omega))
      rw [x, y]; rfl
    unfold pcn
    omega
  omega
theorem CHN_one {F : FD} {n p o : Nat} (fk : FOK F n) (h12 : n ≤ 12) (hp : p < n) {r s : Int32} (a : CHN F p o 12 r) (b : CHN F p o (n + 1) s) : r = s := by
  rcases a with ⟨a1, a2⟩ | ⟨k, k1, k2, k3, k4⟩
  · rcases b with ⟨b1, b2⟩ | ⟨j, j1, j2, j3, j4⟩
    · rw [a1, b1]
    · have := itS_grow fk h12 hp j3 j4
      rw [a2 j (by omega)] at j3; cases j3
  · have g := itS_grow fk h12 hp k3 k4
    rcases b with ⟨b1, b2⟩ | ⟨j, j1, j2, j3, j4⟩
    · rw [b2 k (by omega)] at k3; cases k3
    · rw [k2, j2]
      congr 1
      rcases Nat.lt_trichotomy k j with z | z | z
      · rw [j4 k z] at k3; cases k3
      · exact z
      · rw [k4 j z] at j3; cases j3
