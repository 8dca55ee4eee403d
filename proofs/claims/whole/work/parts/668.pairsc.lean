/-! the class's pairs -/
theorem bt_nI {m i : Nat} (hi : i < 32) : bt (nI m) i = m.testBit i := by
  unfold bt
  show (BitVec.ofNat 32 m).getLsbD i = _
  rw [BitVec.getLsbD_ofNat, decide_eq_true hi, Bool.true_and]
def anN (a b : Nat) : Nat := msk (fun q => a.testBit q && !b.testBit q) 31
theorem anN_bit {a b q : Nat} (hq : q < 31) : (anN a b).testBit q = (a.testBit q && !b.testBit q) := by
  unfold anN; rw [msk_bit, decide_eq_true hq, Bool.true_and]
theorem anN_big {a b q : Nat} (hq : 31 ≤ q) : (anN a b).testBit q = false := by
  unfold anN; rw [msk_bit, decide_eq_false (by omega), Bool.false_and]
theorem anN_lt {a b n : Nat} (h : a < 2 ^ n) : anN a b < 2 ^ n := by
  refine Nat.lt_pow_two_of_testBit _ (fun i hi => ?_)
  rcases Nat.lt_or_ge i 31 with z | z
  · rw [anN_bit z, Nat.testBit_lt_two_pow (Nat.lt_of_lt_of_le h (Nat.pow_le_pow_right (by omega) hi)), Bool.false_and]
  · exact anN_big z
theorem sx_andn {a b : Nat} (ha : a < 2147483648) : nI a &&& (nI b ^^^ mO) = nI (anN a b) := by
  refine b_ext (fun i hi => ?_)
  rw [b_and, b_xor, bt_nI hi, bt_nI hi, bt_nI hi]
  have m : bt mO i = true := b_m1 i hi
  rw [m, Bool.xor_true]
  rcases Nat.lt_or_ge i 31 with z | z
  · rw [anN_bit z]
  · rw [anN_big z, Nat.testBit_lt_two_pow (Nat.lt_of_lt_of_le ha (show 2 ^ 31 ≤ 2 ^ i from Nat.pow_le_pow_right (by omega) z)), Bool.false_and]
theorem anN_rm {a p q : Nat} (hq : q < 31) : (anN a (2 ^ p)).testBit q = rmF a.testBit p q := by
  rw [anN_bit hq, Nat.testBit_two_pow]
  unfold rmF
  congr 2
  exact decide_eq_decide.mpr ⟨fun z => z.symm, fun z => z.symm⟩
theorem par_add (a b : Nat) : a % 2 ^^^ b % 2 = (a + b) % 2 := by
  have x := Nat.mod_two_eq_zero_or_one a
  have y := Nat.mod_two_eq_zero_or_one b
  rcases x with x | x <;> rcases y with y | y <;> rw [x, y] <;> simp <;> omega
theorem c_leastOfEven {v : Ob} {V : VT} (c : VC v V) (w : WFP V) {S : Nat} (hS : S < 2147483648) : f_X5_leastOfEven v (nI S) = some (nI (Ev V S.testBit)) := by
  have b0 := w.1
  refine RT.eq ?_
  refine RT.cps (fun Q hQ => ?_)
  unfold f_X5_leastOfEven
  refine RT.loop0 (fun n i (l2 : Int32) => f_X5_leastOfEven_L4 (nI S) v n l2 (nI i)) (vn V) (fun i l2 => ∃ m, l2 = nI m ∧ m < 2 ^ 10 ∧ ∀ r, m.testBit r = decide (fb_ct (fun p => S.testBit p && decide (rk V p = r)) i % 2 = 1)) _ _ (by omega) ⟨0, rfl, by omega, fun r => by rw [Nat.zero_testBit]; rfl⟩ ?_ ?_
  · intro n l2 ⟨m, e, ml, mb⟩
    show RT (f_X5_leastOfEven_L4 (nI S) v (n + 1) l2 (nI (vn V))) _
    unfold f_X5_leastOfEven_L4
    simp (disch := omega) only [bnd_nr, li_0, li_1, li_2, li_3, li_4, li_5, li_6, li_7, li_8, li_9, li_10, li_11, li_12, li_13, li_14, li_15, li_16, li_17, li_18, li_19, li_20, li_21, li_22, li_23, li_24, li_25, li_26, li_27, li_28, li_29, li_30, li_31, li_32, li_33, li_34, li_35, li_36, li_37, li_38, li_39, li_40, li_41, li_42, li_43, li_44, li_45, li_46, li_47, li_48, li_49, li_50, li_51, li_52, li_53, li_54, li_55, li_56, li_57, li_58, li_59, li_60, li_61, li_62, li_63, li_64, li_74, li_86, li_87, li_88, li_96, li_97, li_98, li_99, li_100, li_101, li_102, li_103, li_104, li_105, li_107, li_108, li_109, li_110, li_111, li_112, li_114, li_115, li_116, li_117, li_118, li_121, li_122, li_124, li_136, li_148, li_160, li_680, li_200, li_201, li_255, li_700, li_950, li_1000, li_1400, li_3440, li_4096, li_9999, li_10000, li_20000, li_20033, li_20038, li_20124, li_32767, li_65535, li_1103515245, li_12345, li_m, sx_grd, sx_clamp, nI_add, sx_sub, pk_mul, sx_le, sx_lt, sx_eq, sx_eqm, sx_meq, sx_lem, sx_mle, sx_ltm, sx_mlt, sx_addm, sx_shl, sx_bit1, sx_bit0, fa_or, uA_s, uA_n, sA_s, sA_n, sx_uA, sx_uAn, sx_sAs, pk_us, pk_un, if_true, if_false, if_pos, if_neg, ob_some, Nat.add_zero, Nat.add_sub_cancel, eq_self, ne_eq, not_true, not_false_iff, false_or, true_or, or_false, or_true, false_and, true_and, and_false, and_true, c.1.1, e]
    refine RT.loop0_2 (fun n r (l3 l4 : Int32) => f_X5_leastOfEven_L45 (nI m) v n l3 l4 (nI r)) 9 (fun r l3 l4 => l4 = nI (fb_ct (fun p => S.testBit p && decide (rk V p < r)) (vn V) % 2) ∧ l3 = nI (fb_sm (fun r => cl V S.testBit r % 2) r)) _ _ _ (by omega) ⟨?_, rfl⟩ ?_ ?_
    · rw [show fb_ct (fun p => S.testBit p && decide (rk V p < 0)) (vn V) = 0 from fb_ct_zero.mpr (fun k _ => by simp)]
    · intro n l3 l4 ⟨e1, e2⟩
      show RT (f_X5_leastOfEven_L45 (nI m) v (n + 1) l3 l4 (nI 9)) _
      unfold f_X5_leastOfEven_L45
      simp (disch := omega) only [bnd_nr, li_0, li_1, li_2, li_3, li_4, li_5, li_6, li_7, li_8, li_9, li_10, li_11, li_12, li_13, li_14, li_15, li_16, li_17, li_18, li_19, li_20, li_21, li_22, li_23, li_24, li_25, li_26, li_27, li_28, li_29, li_30, li_31, li_32, li_33, li_34, li_35, li_36, li_37, li_38, li_39, li_40, li_41, li_42, li_43, li_44, li_45, li_46, li_47, li_48, li_49, li_50, li_51, li_52, li_53, li_54, li_55, li_56, li_57, li_58, li_59, li_60, li_61, li_62, li_63, li_64, li_74, li_86, li_87, li_88, li_96, li_97, li_98, li_99, li_100, li_101, li_102, li_103, li_104, li_105, li_107, li_108, li_109, li_110, li_111, li_112, li_114, li_115, li_116, li_117, li_118, li_121, li_122, li_124, li_136, li_148, li_160, li_680, li_200, li_201, li_255, li_700, li_950, li_1000, li_1400, li_3440, li_4096, li_9999, li_10000, li_20000, li_20033, li_20038, li_20124, li_32767, li_65535, li_1103515245, li_12345, li_m, sx_grd, sx_clamp, nI_add, sx_sub, pk_mul, sx_le, sx_lt, sx_eq, sx_eqm, sx_meq, sx_lem, sx_mle, sx_ltm, sx_mlt, sx_addm, sx_shl, sx_bit1, sx_bit0, fa_or, uA_s, uA_n, sA_s, sA_n, sx_uA, sx_uAn, sx_sAs, pk_us, pk_un, if_true, if_false, if_pos, if_neg, ob_some, Nat.add_zero, Nat.add_sub_cancel, eq_self, ne_eq, not_true, not_false_iff, false_or, true_or, or_false, or_true, false_and, true_and, and_false, and_true]
      exact RT.done hQ e2
    · intro n r l3 l4 hr ⟨e1, e2⟩ hk
      show RT (f_X5_leastOfEven_L45 (nI m) v (n + 1) l3 l4 (nI r)) _
      have spl : cl V S.testBit r = fb_ct (fun p => S.testBit p && decide (rk V p < r)) (vn V) + fb_ct (fun p => S.testBit p && decide (rk V p = r)) (vn V) := by
        rw [← fb_ct_or (fun k _ z => by
          have z1 := z.1
          have z2 := z.2
          simp only [Bool.and_eq_true, decide_eq_true_eq] at z1 z2
          omega)]
        refine fb_ct_cong (fun p _ => ?_)
        cases S.testBit p
        · rfl
        · simp only [Bool.true_and]
          rw [← Bool.decide_or]
          exact decide_eq_decide.mpr (by omega)
      have bit : (if m.testBit r then 1 else 0) = fb_ct (fun p => S.testBit p && decide (rk V p = r)) (vn V) % 2 := by
        rw [mb r]
        by_cases z : fb_ct (fun p => S.testBit p && decide (rk V p = r)) (vn V) % 2 = 1
        · rw [decide_eq_true z, z]; rfl
        · rw [decide_eq_false z]
          have := Nat.mod_two_eq_zero_or_one (fb_ct (fun p => S.testBit p && decide (rk V p = r)) (vn V))
          simp; omega
      unfold f_X5_leastOfEven_L45
      simp (disch := omega) only [bnd_nr, li_0, li_1, li_2, li_3, li_4, li_5, li_6, li_7, li_8, li_9, li_10, li_11, li_12, li_13, li_14, li_15, li_16, li_17, li_18, li_19, li_20, li_21, li_22, li_23, li_24, li_25, li_26, li_27, li_28, li_29, li_30, li_31, li_32, li_33, li_34, li_35, li_36, li_37, li_38, li_39, li_40, li_41, li_42, li_43, li_44, li_45, li_46, li_47, li_48, li_49, li_50, li_51, li_52, li_53, li_54, li_55, li_56, li_57, li_58, li_59, li_60, li_61, li_62, li_63, li_64, li_74, li_86, li_87, li_88, li_96, li_97, li_98, li_99, li_100, li_101, li_102, li_103, li_104, li_105, li_107, li_108, li_109, li_110, li_111, li_112, li_114, li_115, li_116, li_117, li_118, li_121, li_122, li_124, li_136, li_148, li_160, li_680, li_200, li_201, li_255, li_700, li_950, li_1000, li_1400, li_3440, li_4096, li_9999, li_10000, li_20000, li_20033, li_20038, li_20124, li_32767, li_65535, li_1103515245, li_12345, li_m, sx_grd, sx_clamp, nI_add, sx_sub, pk_mul, sx_le, sx_lt, sx_eq, sx_eqm, sx_meq, sx_lem, sx_mle, sx_ltm, sx_mlt, sx_addm, sx_shl, sx_bit1, sx_bit0, fa_or, uA_s, uA_n, sA_s, sA_n, sx_uA, sx_uAn, sx_sAs, pk_us, pk_un, if_true, if_false, if_pos, if_neg, ob_some, Nat.add_zero, Nat.add_sub_cancel, eq_self, ne_eq, not_true, not_false_iff, false_or, true_or, or_false, or_true, false_and, true_and, and_false, and_true, sx_bit, e1, e2, fb_xorI]
      rw [bit, par_add, ← spl]
      refine hk _ _ ⟨?_, rfl⟩
      rw [show cl V S.testBit r = fb_ct (fun p => S.testBit p && decide (rk V p < r + 1)) (vn V) from fb_ct_cong (fun p _ => by
        congr 1
        exact decide_eq_decide.mpr (by omega))]
  · intro n i l2 hi ⟨m, e, ml, mb⟩ hk
    show RT (f_X5_leastOfEven_L4 (nI S) v (n + 1) l2 (nI i)) _
    have b1 := w.2.1 i hi
    unfold f_X5_leastOfEven_L4
    simp (disch := omega) only [bnd_nr, li_0, li_1, li_2, li_3, li_4, li_5, li_6, li_7, li_8, li_9, li_10, li_11, li_12, li_13, li_14, li_15, li_16, li_17, li_18, li_19, li_20, li_21, li_22, li_23, li_24, li_25, li_26, li_27, li_28, li_29, li_30, li_31, li_32, li_33, li_34, li_35, li_36, li_37, li_38, li_39, li_40, li_41, li_42, li_43, li_44, li_45, li_46, li_47, li_48, li_49, li_50, li_51, li_52, li_53, li_54, li_55, li_56, li_57, li_58, li_59, li_60, li_61, li_62, li_63, li_64, li_74, li_86, li_87, li_88, li_96, li_97, li_98, li_99, li_100, li_101, li_102, li_103, li_104, li_105, li_107, li_108, li_109, li_110, li_111, li_112, li_114, li_115, li_116, li_117, li_118, li_121, li_122, li_124, li_136, li_148, li_160, li_680, li_200, li_201, li_255, li_700, li_950, li_1000, li_1400, li_3440, li_4096, li_9999, li_10000, li_20000, li_20033, li_20038, li_20124, li_32767, li_65535, li_1103515245, li_12345, li_m, sx_grd, sx_clamp, nI_add, sx_sub, pk_mul, sx_le, sx_lt, sx_eq, sx_eqm, sx_meq, sx_lem, sx_mle, sx_ltm, sx_mlt, sx_addm, sx_shl, sx_bit1, sx_bit0, fa_or, uA_s, uA_n, sA_s, sA_n, sx_uA, sx_uAn, sx_sAs, pk_us, pk_un, if_true, if_false, if_pos, if_neg, ob_some, Nat.add_zero, Nat.add_sub_cancel, eq_self, ne_eq, not_true, not_false_iff, false_or, true_or, or_false, or_true, false_and, true_and, and_false, and_true, c.1.1, c.r i hi, e, fb_xorI]
    refine RT.ite (fun d => hk _ ⟨m, rfl, ml, fun r => ?_⟩) (fun d => hk _ ⟨_, rfl, Nat.xor_lt_two_pow ml (Nat.pow_lt_pow_right (by omega) (by omega)), fun r => ?_⟩)
    · rw [mb, fb_ct_succ, d]; simp
    · rw [fb_bit_flip, mb, fb_ct_succ, ts_nf d, Bool.true_and]
      by_cases z : r = rk V i
      · subst z
        simp only [decide_true, Bool.xor_true, if_true]
        have := Nat.mod_two_eq_zero_or_one (fb_ct (fun p => S.testBit p && decide (rk V p = rk V i)) i)
        rcases this with y | y
        · rw [y, show (fb_ct (fun p => S.testBit p && decide (rk V p = rk V i)) i + 1) % 2 = 1 by omega]; rfl
        · rw [y, show (fb_ct (fun p => S.testBit p && decide (rk V p = rk V i)) i + 1) % 2 = 0 by omega]; rfl
      · rw [decide_eq_false z, decide_eq_false (show ¬ rk V i = r from fun y => z y.symm), Bool.xor_false]
        rfl
theorem cf_pcn {V : VT} {S : Nat} (h12 : vn V ≤ 12) (hS : S < 2 ^ vn V) : pcn S = cf V S.testBit := by
  unfold pcn cf
  obtain ⟨d, hd⟩ : ∃ d, 13 = vn V + d := ⟨13 - vn V, by omega⟩
  rw [hd, fb_ct_split]
  have b : fb_ct (fun k => S.testBit (vn V + k)) d = 0 := fb_ct_zero.mpr (fun k _ => Nat.testBit_lt_two_pow (Nat.lt_of_lt_of_le hS (Nat.pow_le_pow_right (by omega) (by omega))))
  rw [b]; rfl
theorem pw12 {n : Nat} (h : n ≤ 12) : 2 ^ n ≤ 4096 := show 2 ^ n ≤ 2 ^ 12 from Nat.pow_le_pow_right (by omega) h
theorem mn_bd (V : VT) (f : Nat → Bool) : ∀ i, mnF V f i ≤ 1000
  | 0 => Nat.le_refl _
  | i + 1 => by
    have := mn_bd V f i
    rw [mnF]
    split
    · split <;> omega
    · exact this
theorem c_least {v : Ob} {V : VT} (c : VC v V) (w : WFP V) {S : Nat} (hS : S < 2 ^ vn V) : f_X5_least v (nI S) = some (nI (Lv V S.testBit)) := by
  have b0 := w.1
  have p2 := pw12 b0.1
  refine RT.eq ?_
  refine RT.cps (fun Q hQ => ?_)
  have q1 := pcn_le S
  have jb : f_J6_bitCount_0f7a4 (nI S) = some (nI (pcn S)) := j_bitCount (by omega)
  unfold f_X5_least
  rw [jb, ob_some, show (2 : Int32) = nI 2 from rfl, pk_rem (by omega) (by omega) (by omega), cf_pcn b0.1 hS]
  by_cases ev : cf V S.testBit % 2 = 0
  · rw [ev]
    refine RT.itT rfl ?_
    rw [c_leastOfEven c w (by omega), ob_some]
    exact RT.done hQ (by rw [Lv, if_pos ev])
  · refine RT.itF (fun z => ev ((nI_eq (a := cf V S.testBit % 2) (b := 0) (by omega) (by omega)).mp z)) ?_
    refine RT.loop0 (fun n i (l2 : Int32) => f_X5_least_L21 (nI S) v n l2 (nI i)) (vn V) (fun i l2 => l2 = nI (mnF V S.testBit i)) _ _ (by omega) rfl ?_ ?_
    · intro n l2 e
      show RT (f_X5_least_L21 (nI S) v (n + 1) l2 (nI (vn V))) _
      unfold f_X5_least_L21
      simp (disch := omega) only [bnd_nr, li_0, li_1, li_2, li_3, li_4, li_5, li_6, li_7, li_8, li_9, li_10, li_11, li_12, li_13, li_14, li_15, li_16, li_17, li_18, li_19, li_20, li_21, li_22, li_23, li_24, li_25, li_26, li_27, li_28, li_29, li_30, li_31, li_32, li_33, li_34, li_35, li_36, li_37, li_38, li_39, li_40, li_41, li_42, li_43, li_44, li_45, li_46, li_47, li_48, li_49, li_50, li_51, li_52, li_53, li_54, li_55, li_56, li_57, li_58, li_59, li_60, li_61, li_62, li_63, li_64, li_74, li_86, li_87, li_88, li_96, li_97, li_98, li_99, li_100, li_101, li_102, li_103, li_104, li_105, li_107, li_108, li_109, li_110, li_111, li_112, li_114, li_115, li_116, li_117, li_118, li_121, li_122, li_124, li_136, li_148, li_160, li_680, li_200, li_201, li_255, li_700, li_950, li_1000, li_1400, li_3440, li_4096, li_9999, li_10000, li_20000, li_20033, li_20038, li_20124, li_32767, li_65535, li_1103515245, li_12345, li_m, sx_grd, sx_clamp, nI_add, sx_sub, pk_mul, sx_le, sx_lt, sx_eq, sx_eqm, sx_meq, sx_lem, sx_mle, sx_ltm, sx_mlt, sx_addm, sx_shl, sx_bit1, sx_bit0, fa_or, uA_s, uA_n, sA_s, sA_n, sx_uA, sx_uAn, sx_sAs, pk_us, pk_un, if_true, if_false, if_pos, if_neg, ob_some, Nat.add_zero, Nat.add_sub_cancel, eq_self, ne_eq, not_true, not_false_iff, false_or, true_or, or_false, or_true, false_and, true_and, and_false, and_true, c.1.1]
      exact RT.done hQ (by rw [e, Lv, if_neg ev])
    · intro n i l2 hi e hk
      show RT (f_X5_least_L21 (nI S) v (n + 1) l2 (nI i)) _
      have al := anN_lt (b := 2 ^ i) hS
      have ml := mn_bd V S.testBit i
      have el := Ev_le V (anN S (2 ^ i)).testBit
      have ee : Ev V (anN S (2 ^ i)).testBit = Ev V (rmF S.testBit i) := Ev_cong (fun p hp => anN_rm (by omega))
      unfold f_X5_least_L21
      simp (disch := omega) only [bnd_nr, li_0, li_1, li_2, li_3, li_4, li_5, li_6, li_7, li_8, li_9, li_10, li_11, li_12, li_13, li_14, li_15, li_16, li_17, li_18, li_19, li_20, li_21, li_22, li_23, li_24, li_25, li_26, li_27, li_28, li_29, li_30, li_31, li_32, li_33, li_34, li_35, li_36, li_37, li_38, li_39, li_40, li_41, li_42, li_43, li_44, li_45, li_46, li_47, li_48, li_49, li_50, li_51, li_52, li_53, li_54, li_55, li_56, li_57, li_58, li_59, li_60, li_61, li_62, li_63, li_64, li_74, li_86, li_87, li_88, li_96, li_97, li_98, li_99, li_100, li_101, li_102, li_103, li_104, li_105, li_107, li_108, li_109, li_110, li_111, li_112, li_114, li_115, li_116, li_117, li_118, li_121, li_122, li_124, li_136, li_148, li_160, li_680, li_200, li_201, li_255, li_700, li_950, li_1000, li_1400, li_3440, li_4096, li_9999, li_10000, li_20000, li_20033, li_20038, li_20124, li_32767, li_65535, li_1103515245, li_12345, li_m, sx_grd, sx_clamp, nI_add, sx_sub, pk_mul, sx_le, sx_lt, sx_eq, sx_eqm, sx_meq, sx_lem, sx_mle, sx_ltm, sx_mlt, sx_addm, sx_shl, sx_bit1, sx_bit0, fa_or, uA_s, uA_n, sA_s, sA_n, sx_uA, sx_uAn, sx_sAs, pk_us, pk_un, if_true, if_false, if_pos, if_neg, ob_some, Nat.add_zero, Nat.add_sub_cancel, eq_self, ne_eq, not_true, not_false_iff, false_or, true_or, or_false, or_true, false_and, true_and, and_false, and_true, c.1.1, e, sx_andn, c_leastOfEven c w (show anN S (2 ^ i) < 2147483648 by omega)]
      refine RT.ite (fun d => hk _ ?_) (fun d => hk _ ?_)
      · rw [mnF, d]; rfl
      · rw [mnF, ts_nf d, if_pos rfl, ee]
        split <;> rfl
theorem dw_lt (V : VT) (h : Nat) : dw V h < 2 ^ vn V := msk_lt _ _
theorem dw_lf {V : VT} {h p : Nat} (hp : p < vn V) : (dw V h).testBit p = lf V 0 h p := by
  unfold dw lf
  rw [msk_bit, decide_eq_true hp, Nat.zero_testBit]; rfl
theorem c_difference {o v : Ob} {V : VT} (c : VC v V) (w : WFP V) : f_X5_difference o v = some (nI (fb_sm (fun h => Lv V (lf V 0 h)) (vh V))) := by
  have b0 := w.1
  refine RT.eq ?_
  refine RT.cps (fun Q hQ => ?_)
  unfold f_X5_difference
  refine RT.loop0 (fun n i (l2 : Int32) => f_X5_difference_L4 o v n l2 (nI i)) (vh V) (fun i l2 => l2 = nI (fb_sm (fun h => Lv V (lf V 0 h)) i)) _ _ (by omega) rfl ?_ ?_
  · intro n l2 e
    show RT (f_X5_difference_L4 o v (n + 1) l2 (nI (vh V))) _
    unfold f_X5_difference_L4
    simp (disch := omega) only [bnd_nr, li_0, li_1, li_2, li_3, li_4, li_5, li_6, li_7, li_8, li_9, li_10, li_11, li_12, li_13, li_14, li_15, li_16, li_17, li_18, li_19, li_20, li_21, li_22, li_23, li_24, li_25, li_26, li_27, li_28, li_29, li_30, li_31, li_32, li_33, li_34, li_35, li_36, li_37, li_38, li_39, li_40, li_41, li_42, li_43, li_44, li_45, li_46, li_47, li_48, li_49, li_50, li_51, li_52, li_53, li_54, li_55, li_56, li_57, li_58, li_59, li_60, li_61, li_62, li_63, li_64, li_74, li_86, li_87, li_88, li_96, li_97, li_98, li_99, li_100, li_101, li_102, li_103, li_104, li_105, li_107, li_108, li_109, li_110, li_111, li_112, li_114, li_115, li_116, li_117, li_118, li_121, li_122, li_124, li_136, li_148, li_160, li_680, li_200, li_201, li_255, li_700, li_950, li_1000, li_1400, li_3440, li_4096, li_9999, li_10000, li_20000, li_20033, li_20038, li_20124, li_32767, li_65535, li_1103515245, li_12345, li_m, sx_grd, sx_clamp, nI_add, sx_sub, pk_mul, sx_le, sx_lt, sx_eq, sx_eqm, sx_meq, sx_lem, sx_mle, sx_ltm, sx_mlt, sx_addm, sx_shl, sx_bit1, sx_bit0, fa_or, uA_s, uA_n, sA_s, sA_n, sx_uA, sx_uAn, sx_sAs, pk_us, pk_un, if_true, if_false, if_pos, if_neg, ob_some, Nat.add_zero, Nat.add_sub_cancel, eq_self, ne_eq, not_true, not_false_iff, false_or, true_or, or_false, or_true, false_and, true_and, and_false, and_true, c.1.2.1]
    exact RT.done hQ e
  · intro n i l2 hi e hk
    show RT (f_X5_difference_L4 o v (n + 1) l2 (nI i)) _
    unfold f_X5_difference_L4
    simp (disch := omega) only [bnd_nr, li_0, li_1, li_2, li_3, li_4, li_5, li_6, li_7, li_8, li_9, li_10, li_11, li_12, li_13, li_14, li_15, li_16, li_17, li_18, li_19, li_20, li_21, li_22, li_23, li_24, li_25, li_26, li_27, li_28, li_29, li_30, li_31, li_32, li_33, li_34, li_35, li_36, li_37, li_38, li_39, li_40, li_41, li_42, li_43, li_44, li_45, li_46, li_47, li_48, li_49, li_50, li_51, li_52, li_53, li_54, li_55, li_56, li_57, li_58, li_59, li_60, li_61, li_62, li_63, li_64, li_74, li_86, li_87, li_88, li_96, li_97, li_98, li_99, li_100, li_101, li_102, li_103, li_104, li_105, li_107, li_108, li_109, li_110, li_111, li_112, li_114, li_115, li_116, li_117, li_118, li_121, li_122, li_124, li_136, li_148, li_160, li_680, li_200, li_201, li_255, li_700, li_950, li_1000, li_1400, li_3440, li_4096, li_9999, li_10000, li_20000, li_20033, li_20038, li_20124, li_32767, li_65535, li_1103515245, li_12345, li_m, sx_grd, sx_clamp, nI_add, sx_sub, pk_mul, sx_le, sx_lt, sx_eq, sx_eqm, sx_meq, sx_lem, sx_mle, sx_ltm, sx_mlt, sx_addm, sx_shl, sx_bit1, sx_bit0, fa_or, uA_s, uA_n, sA_s, sA_n, sx_uA, sx_uAn, sx_sAs, pk_us, pk_un, if_true, if_false, if_pos, if_neg, ob_some, Nat.add_zero, Nat.add_sub_cancel, eq_self, ne_eq, not_true, not_false_iff, false_or, true_or, or_false, or_true, false_and, true_and, and_false, and_true, c.1.2.1, c_dwellers c w (show i < 2147483648 by omega), c_least c w (dw_lt V i), e]
    refine hk _ ?_
    rw [fb_sm_succ, Lv_cong (f := (dw V i).testBit) (g := lf V 0 i) (fun p hp => dw_lf hp)]
theorem c_many {o v : Ob} {V : VT} (c : VC v V) (w : WFP V) : f_X5_many o v = some (nI (fb_sm (fun h => sz V h / 2) (vh V))) := by
  have b0 := w.1
  refine RT.eq ?_
  refine RT.cps (fun Q hQ => ?_)
  unfold f_X5_many
  refine RT.loop0 (fun n i (l2 : Int32) => f_X5_many_L4 o v n l2 (nI i)) (vh V) (fun i l2 => l2 = nI (fb_sm (fun h => sz V h / 2) i)) _ _ (by omega) rfl ?_ ?_
  · intro n l2 e
    show RT (f_X5_many_L4 o v (n + 1) l2 (nI (vh V))) _
    unfold f_X5_many_L4
    simp (disch := omega) only [bnd_nr, li_0, li_1, li_2, li_3, li_4, li_5, li_6, li_7, li_8, li_9, li_10, li_11, li_12, li_13, li_14, li_15, li_16, li_17, li_18, li_19, li_20, li_21, li_22, li_23, li_24, li_25, li_26, li_27, li_28, li_29, li_30, li_31, li_32, li_33, li_34, li_35, li_36, li_37, li_38, li_39, li_40, li_41, li_42, li_43, li_44, li_45, li_46, li_47, li_48, li_49, li_50, li_51, li_52, li_53, li_54, li_55, li_56, li_57, li_58, li_59, li_60, li_61, li_62, li_63, li_64, li_74, li_86, li_87, li_88, li_96, li_97, li_98, li_99, li_100, li_101, li_102, li_103, li_104, li_105, li_107, li_108, li_109, li_110, li_111, li_112, li_114, li_115, li_116, li_117, li_118, li_121, li_122, li_124, li_136, li_148, li_160, li_680, li_200, li_201, li_255, li_700, li_950, li_1000, li_1400, li_3440, li_4096, li_9999, li_10000, li_20000, li_20033, li_20038, li_20124, li_32767, li_65535, li_1103515245, li_12345, li_m, sx_grd, sx_clamp, nI_add, sx_sub, pk_mul, sx_le, sx_lt, sx_eq, sx_eqm, sx_meq, sx_lem, sx_mle, sx_ltm, sx_mlt, sx_addm, sx_shl, sx_bit1, sx_bit0, fa_or, uA_s, uA_n, sA_s, sA_n, sx_uA, sx_uAn, sx_sAs, pk_us, pk_un, if_true, if_false, if_pos, if_neg, ob_some, Nat.add_zero, Nat.add_sub_cancel, eq_self, ne_eq, not_true, not_false_iff, false_or, true_or, or_false, or_true, false_and, true_and, and_false, and_true, c.1.2.1]
    exact RT.done hQ e
  · intro n i l2 hi e hk
    show RT (f_X5_many_L4 o v (n + 1) l2 (nI i)) _
    have s0 := sz_le V i
    unfold f_X5_many_L4
    simp (disch := omega) only [bnd_nr, li_0, li_1, li_2, li_3, li_4, li_5, li_6, li_7, li_8, li_9, li_10, li_11, li_12, li_13, li_14, li_15, li_16, li_17, li_18, li_19, li_20, li_21, li_22, li_23, li_24, li_25, li_26, li_27, li_28, li_29, li_30, li_31, li_32, li_33, li_34, li_35, li_36, li_37, li_38, li_39, li_40, li_41, li_42, li_43, li_44, li_45, li_46, li_47, li_48, li_49, li_50, li_51, li_52, li_53, li_54, li_55, li_56, li_57, li_58, li_59, li_60, li_61, li_62, li_63, li_64, li_74, li_86, li_87, li_88, li_96, li_97, li_98, li_99, li_100, li_101, li_102, li_103, li_104, li_105, li_107, li_108, li_109, li_110, li_111, li_112, li_114, li_115, li_116, li_117, li_118, li_121, li_122, li_124, li_136, li_148, li_160, li_680, li_200, li_201, li_255, li_700, li_950, li_1000, li_1400, li_3440, li_4096, li_9999, li_10000, li_20000, li_20033, li_20038, li_20124, li_32767, li_65535, li_1103515245, li_12345, li_m, sx_grd, sx_clamp, nI_add, sx_sub, pk_mul, sx_le, sx_lt, sx_eq, sx_eqm, sx_meq, sx_lem, sx_mle, sx_ltm, sx_mlt, sx_addm, sx_shl, sx_bit1, sx_bit0, fa_or, uA_s, uA_n, sA_s, sA_n, sx_uA, sx_uAn, sx_sAs, pk_us, pk_un, if_true, if_false, if_pos, if_neg, ob_some, Nat.add_zero, Nat.add_sub_cancel, eq_self, ne_eq, not_true, not_false_iff, false_or, true_or, or_false, or_true, false_and, true_and, and_false, and_true, c.1.2.1, c.z i hi, e, pk_div]
    exact hk _ rfl
/-- the first with whom the rest can still differ least -/
def FPc (V : VT) (S p : Nat) (r : Int32) : Prop := (r = mO ∧ ∀ q, p < q → q < vn V → S.testBit q = true → ad (rk V p) (rk V q) + Lv V (rmF (rmF S.testBit p) q) ≠ Lv V S.testBit) ∨ ∃ q, p < q ∧ q < vn V ∧ r = nI q ∧ S.testBit q = true ∧ ad (rk V p) (rk V q) + Lv V (rmF (rmF S.testBit p) q) = Lv V S.testBit ∧ ∀ s, p < s → s < q → S.testBit s = true → ad (rk V p) (rk V s) + Lv V (rmF (rmF S.testBit p) s) ≠ Lv V S.testBit
theorem RT.loopI {σ α : Type} (F : Nat → Nat → σ → Option α) (i0 N : Nat) (P : Nat → σ → Prop) (Q : α → Prop) (a : σ) (hi : i0 ≤ N) (hN : N < 100000) (h0 : P i0 a) (hx : ∀ n a, P N a → RT (F (n + 1) N a) Q) (hs : ∀ n i a, i0 ≤ i → i < N → P i a → (∀ a', P (i + 1) a' → RT (F n (i + 1) a') Q) → RT (F (n + 1) i a) Q) : RT (F FUEL i0 a) Q :=
  RT.loop F N (fun i a => i0 ≤ i ∧ P i a) Q (fun n i a h1 h2 hk => hs n i a h2.1 h1 h2.2 (fun a' hp => hk a' ⟨by omega, hp⟩)) (fun n a h => hx n a h.2) FUEL i0 a hi (by unfold FUEL; omega) ⟨Nat.le_refl _, h0⟩
theorem c_firstPartner {v : Ob} {V : VT} (c : VC v V) (w : WFP V) {S p : Nat} (hS : S < 2 ^ vn V) (hp : p < vn V) : RT (f_X5_firstPartner v (nI p) (nI S)) (FPc V S p) := by
  have b0 := w.1
  have p2 := pw12 b0.1
  have b1 := w.2.1 p hp
  have l0 := Lv_le (V := V) S.testBit
  refine RT.cps (fun Q hQ => ?_)
  unfold f_X5_firstPartner
  simp (disch := omega) only [bnd_nr, li_0, li_1, li_2, li_3, li_4, li_5, li_6, li_7, li_8, li_9, li_10, li_11, li_12, li_13, li_14, li_15, li_16, li_17, li_18, li_19, li_20, li_21, li_22, li_23, li_24, li_25, li_26, li_27, li_28, li_29, li_30, li_31, li_32, li_33, li_34, li_35, li_36, li_37, li_38, li_39, li_40, li_41, li_42, li_43, li_44, li_45, li_46, li_47, li_48, li_49, li_50, li_51, li_52, li_53, li_54, li_55, li_56, li_57, li_58, li_59, li_60, li_61, li_62, li_63, li_64, li_74, li_86, li_87, li_88, li_96, li_97, li_98, li_99, li_100, li_101, li_102, li_103, li_104, li_105, li_107, li_108, li_109, li_110, li_111, li_112, li_114, li_115, li_116, li_117, li_118, li_121, li_122, li_124, li_136, li_148, li_160, li_680, li_200, li_201, li_255, li_700, li_950, li_1000, li_1400, li_3440, li_4096, li_9999, li_10000, li_20000, li_20033, li_20038, li_20124, li_32767, li_65535, li_1103515245, li_12345, li_m, sx_grd, sx_clamp, nI_add, sx_sub, pk_mul, sx_le, sx_lt, sx_eq, sx_eqm, sx_meq, sx_lem, sx_mle, sx_ltm, sx_mlt, sx_addm, sx_shl, sx_bit1, sx_bit0, fa_or, uA_s, uA_n, sA_s, sA_n, sx_uA, sx_uAn, sx_sAs, pk_us, pk_un, if_true, if_false, if_pos, if_neg, ob_some, Nat.add_zero, Nat.add_sub_cancel, eq_self, ne_eq, not_true, not_false_iff, false_or, true_or, or_false, or_true, false_and, true_and, and_false, and_true, c_least c w hS]
  refine RT.loopI (fun n i (_ : Unit) => f_X5_firstPartner_L11 (nI p) (nI S) (nI (Lv V S.testBit)) v n (nI i)) (p + 1) (vn V) (fun i _ => ∀ s, p < s → s < i → S.testBit s = true → ad (rk V p) (rk V s) + Lv V (rmF (rmF S.testBit p) s) ≠ Lv V S.testBit) _ () (by omega) (by omega) (fun s h1 h2 => absurd h1 (by omega)) ?_ ?_
  · intro n _ e
    show RT (f_X5_firstPartner_L11 (nI p) (nI S) (nI (Lv V S.testBit)) v (n + 1) (nI (vn V))) _
    unfold f_X5_firstPartner_L11
    simp (disch := omega) only [bnd_nr, li_0, li_1, li_2, li_3, li_4, li_5, li_6, li_7, li_8, li_9, li_10, li_11, li_12, li_13, li_14, li_15, li_16, li_17, li_18, li_19, li_20, li_21, li_22, li_23, li_24, li_25, li_26, li_27, li_28, li_29, li_30, li_31, li_32, li_33, li_34, li_35, li_36, li_37, li_38, li_39, li_40, li_41, li_42, li_43, li_44, li_45, li_46, li_47, li_48, li_49, li_50, li_51, li_52, li_53, li_54, li_55, li_56, li_57, li_58, li_59, li_60, li_61, li_62, li_63, li_64, li_74, li_86, li_87, li_88, li_96, li_97, li_98, li_99, li_100, li_101, li_102, li_103, li_104, li_105, li_107, li_108, li_109, li_110, li_111, li_112, li_114, li_115, li_116, li_117, li_118, li_121, li_122, li_124, li_136, li_148, li_160, li_680, li_200, li_201, li_255, li_700, li_950, li_1000, li_1400, li_3440, li_4096, li_9999, li_10000, li_20000, li_20033, li_20038, li_20124, li_32767, li_65535, li_1103515245, li_12345, li_m, sx_grd, sx_clamp, nI_add, sx_sub, pk_mul, sx_le, sx_lt, sx_eq, sx_eqm, sx_meq, sx_lem, sx_mle, sx_ltm, sx_mlt, sx_addm, sx_shl, sx_bit1, sx_bit0, fa_or, uA_s, uA_n, sA_s, sA_n, sx_uA, sx_uAn, sx_sAs, pk_us, pk_un, if_true, if_false, if_pos, if_neg, ob_some, Nat.add_zero, Nat.add_sub_cancel, eq_self, ne_eq, not_true, not_false_iff, false_or, true_or, or_false, or_true, false_and, true_and, and_false, and_true, c.1.1]
    exact RT.done hQ (Or.inl ⟨rfl, fun q h1 h2 => e q h1 h2⟩)
  · intro n i _ h0 hi e hk
    show RT (f_X5_firstPartner_L11 (nI p) (nI S) (nI (Lv V S.testBit)) v (n + 1) (nI i)) _
    have b2 := w.2.1 i hi
    have a1 := anN_lt (b := 2 ^ p) hS
    have a2 := anN_lt (b := 2 ^ i) a1
    have ee : Lv V (anN (anN S (2 ^ p)) (2 ^ i)).testBit = Lv V (rmF (rmF S.testBit p) i) := Lv_cong (fun q hq => by
      rw [anN_rm (by omega)]
      unfold rmF
      rw [anN_rm (by omega)]
      rfl)
    have l1 := Lv_le (V := V) (rmF (rmF S.testBit p) i)
    have ab : ∀ {inst : Decidable (nI 0 ≤ nI (rk V p) - nI (rk V i))}, (@ite Int32 (nI 0 ≤ nI (rk V p) - nI (rk V i)) inst (nI (rk V p) - nI (rk V i)) (nI 0 - (nI (rk V p) - nI (rk V i)))) = nI (ad (rk V p) (rk V i)) := fun {inst} => abs_sb (by omega) (by omega)
    have adl : ad (rk V p) (rk V i) ≤ 9 := by unfold ad; split <;> omega
    have nx1 : (∀ s, p < s → s < i + 1 → S.testBit s = true → ad (rk V p) (rk V s) + Lv V (rmF (rmF S.testBit p) s) ≠ Lv V S.testBit) → RT (f_X5_firstPartner_L11 (nI p) (nI S) (nI (Lv V S.testBit)) v n (nI (i + 1))) Q := fun h9 => hk () h9
    unfold f_X5_firstPartner_L11
    simp (disch := omega) only [bnd_nr, li_0, li_1, li_2, li_3, li_4, li_5, li_6, li_7, li_8, li_9, li_10, li_11, li_12, li_13, li_14, li_15, li_16, li_17, li_18, li_19, li_20, li_21, li_22, li_23, li_24, li_25, li_26, li_27, li_28, li_29, li_30, li_31, li_32, li_33, li_34, li_35, li_36, li_37, li_38, li_39, li_40, li_41, li_42, li_43, li_44, li_45, li_46, li_47, li_48, li_49, li_50, li_51, li_52, li_53, li_54, li_55, li_56, li_57, li_58, li_59, li_60, li_61, li_62, li_63, li_64, li_74, li_86, li_87, li_88, li_96, li_97, li_98, li_99, li_100, li_101, li_102, li_103, li_104, li_105, li_107, li_108, li_109, li_110, li_111, li_112, li_114, li_115, li_116, li_117, li_118, li_121, li_122, li_124, li_136, li_148, li_160, li_680, li_200, li_201, li_255, li_700, li_950, li_1000, li_1400, li_3440, li_4096, li_9999, li_10000, li_20000, li_20033, li_20038, li_20124, li_32767, li_65535, li_1103515245, li_12345, li_m, sx_grd, sx_clamp, nI_add, sx_sub, pk_mul, sx_le, sx_lt, sx_eq, sx_eqm, sx_meq, sx_lem, sx_mle, sx_ltm, sx_mlt, sx_addm, sx_shl, sx_bit1, sx_bit0, fa_or, uA_s, uA_n, sA_s, sA_n, sx_uA, sx_uAn, sx_sAs, pk_us, pk_un, if_true, if_false, if_pos, if_neg, ob_some, Nat.add_zero, Nat.add_sub_cancel, eq_self, ne_eq, not_true, not_false_iff, false_or, true_or, or_false, or_true, false_and, true_and, and_false, and_true, c.1.1, c.r p hp, c.r i hi, sx_andn, c_least c w a2]
    refine RT.ite (fun d => nx1 (fun s h1 h2 h3 => ?_)) (fun d => ?_)
    · by_cases si : s = i
      · subst si; rw [d] at h3; cases h3
      · exact e s h1 (by omega) h3
    · rw [ab, ee, nI_add]
      simp (disch := omega) only [sx_eq]
      refine RT.ite (fun d2 => RT.done hQ (Or.inr ⟨i, by omega, hi, rfl, ts_nf d, d2, fun s h1 h2 => e s h1 h2⟩)) (fun d2 => nx1 (fun s h1 h2 h3 => ?_))
      by_cases si : s = i
      · subst si; exact d2
      · exact e s h1 (by omega) h3
