theorem msk_zero {f : Nat → Bool} {n : Nat} : msk f n = 0 ↔ fb_ct f n = 0 := by
  rw [fb_ct_zero]
  constructor
  · intro h k hk
    have := msk_bit f n k
    rw [h, Nat.zero_testBit, decide_eq_true hk, Bool.true_and] at this
    exact this.symm
  · intro h
    refine bit_ext (n := n) (msk_lt f n) (Nat.two_pow_pos n) (fun i hi => ?_)
    rw [msk_bit, h i hi, Bool.and_false, Nat.zero_testBit]
theorem msk31 {f : Nat → Bool} {n : Nat} (h : n ≤ 30) : msk f n < 2147483648 := pw_lt (msk_lt f n) h
def oc (out : Nat → Bool) (a : Nat → Nat) (n h : Nat) : Bool := decide (0 < fb_ct (fun p => !out p && decide (a p = h)) n)
theorem oc_of {out : Nat → Bool} {a : Nat → Nat} {n p : Nat} (hp : p < n) (ho : out p = false) : oc out a n (a p) = true := decide_eq_true (fb_ct_pos.mpr ⟨p, hp, by simp [ho]⟩)
theorem ct_yes {P : Nat → Bool} {n : Nat} (h : P n = true) : fb_ct P (n + 1) = fb_ct P n + 1 := by rw [fb_ct_succ, if_pos h]
theorem ct_no {P : Nat → Bool} {n : Nat} (h : P n = false) : fb_ct P (n + 1) = fb_ct P n := by rw [fb_ct_succ, if_neg (by rw [h]; decide)]; rfl
theorem m_falls0 {I : Nat → Int32} {w : Int64} {A : Nat → Nat → Int32} {f : Nat → Int32} {b n m : Nat} {X : Nat → Nat → Int32} (hI : I 1 = nI n) (hn : n ≤ 12) (hb : b ≤ 86) (hm : m ≤ 12) (h01 : X 0 1 = nI m) (out : Nat → Bool) (a : Nat → Nat) (hX : ∀ p, p < n → X 1 p = if out p then mO else nI (a p)) (ha : ∀ p, p < n → a p < m) : RT (f_X12_falls0 (I, w, sA A 10 (rowf f b X)) (nI b)) (fun r => ∃ Y : Nat → Nat → Int32, r = (I, w, sA A 10 (rowf f b Y)) ∧ Y 0 0 = X 0 0 ∧ Y 0 1 = nI (fb_ct (oc out a n) m) ∧ (∀ p, p < n → Y 1 p = if out p then mO else nI (fb_ct (oc out a n) (a p))) ∧ (∀ j, 2 ≤ j → j ≤ 5 → Y j = X j) ∧ ∀ h, h < m → oc out a n h = true → Y 6 (fb_ct (oc out a n) h) = X 6 h ∧ Y 7 (fb_ct (oc out a n) h) = X 7 h) := by
  refine RT.cps (fun Q hQ => ?_)
  have ctl : ∀ h, fb_ct (oc out a n) h ≤ h := fun h => fb_ct_le _ _
  unfold f_X12_falls0
  refine RT.loop0_2 (fun k i (c : Int32) (z : MS) => f_X12_falls0_L4 (nI b) k c (nI i) z) m (fun i c z => c = nI (fb_ct (oc out a n) i) ∧ ∃ Y : Nat → Nat → Int32, z = (I, w, sA A 10 (rowf f b Y)) ∧ Y 0 = X 0 ∧ (∀ p, p < n → Y 1 p = if out p then mO else if a p < i then nI (fb_ct (oc out a n) (a p)) else nI (a p)) ∧ (∀ j, 2 ≤ j → j ≤ 5 → Y j = X j) ∧ (∀ h, h < i → oc out a n h = true → Y 6 (fb_ct (oc out a n) h) = X 6 h ∧ Y 7 (fb_ct (oc out a n) h) = X 7 h) ∧ ∀ h, i ≤ h → Y 6 h = X 6 h ∧ Y 7 h = X 7 h) _ _ _ (by omega) ?_ ?_ ?_
  · refine ⟨rfl, X, rfl, rfl, fun p hp => ?_, fun _ _ _ => rfl, fun h hh => absurd hh (Nat.not_lt_zero _), fun _ _ => ⟨rfl, rfl⟩⟩
    rw [hX p hp, if_neg (Nat.not_lt_zero _)]
  · intro k c z ⟨hc, Y, hz, y0, y1, y2, y3, y4⟩; subst hc; subst hz
    show RT (f_X12_falls0_L4 (nI b) (k + 1) _ (nI m) _) _
    have := ctl m
    unfold f_X12_falls0_L4
    simp (disch := omega) only [bnd_nr, li_0, li_1, li_2, li_3, li_4, li_5, li_6, li_7, li_8, li_9, li_10, li_11, li_12, li_13, li_14, li_15, li_16, li_17, li_18, li_19, li_20, li_21, li_22, li_23, li_24, li_25, li_26, li_27, li_28, li_29, li_30, li_31, li_32, li_33, li_34, li_35, li_36, li_37, li_38, li_39, li_40, li_41, li_42, li_43, li_44, li_45, li_46, li_47, li_48, li_49, li_50, li_51, li_52, li_53, li_54, li_55, li_56, li_57, li_58, li_59, li_60, li_61, li_62, li_63, li_64, li_74, li_86, li_87, li_88, li_96, li_97, li_98, li_99, li_100, li_101, li_102, li_103, li_104, li_105, li_107, li_108, li_109, li_110, li_111, li_112, li_114, li_115, li_116, li_117, li_118, li_121, li_122, li_124, li_136, li_148, li_160, li_680, li_200, li_201, li_255, li_700, li_950, li_1000, li_1400, li_3440, li_4096, li_9999, li_10000, li_20000, li_20033, li_20038, li_20124, li_32767, li_65535, li_1103515245, li_12345, li_m, sx_grd, sx_clamp, nI_add, sx_sub, pk_mul, sx_le, sx_lt, sx_eq, sx_eqm, sx_meq, sx_lem, sx_mle, sx_ltm, sx_mlt, sx_addm, sx_shl, sx_bit1, sx_bit0, fa_or, uA_s, uA_n, sA_s, sA_n, sx_uA, sx_uAn, sx_sAs, pk_us, pk_un, if_true, if_false, if_pos, if_neg, ob_some, Nat.add_zero, Nat.add_sub_cancel, eq_self, ne_eq, not_true, not_false_iff, false_or, true_or, or_false, or_true, false_and, true_and, and_false, and_true, rowf_00, rowf_01, rowf_2, rowf_14, rowf_26, rowf_38, rowf_50, rowf_62, rowf_74, rowf_u00, rowf_u01, rowf_u2, rowf_u14, rowf_u26, rowf_u38, rowf_u50, rowf_u62, rowf_u74, y0, h01]
    refine RT.done hQ ⟨_, rfl, ?_, ?_, fun p hp => ?_, fun j h1 h2 => ?_, fun h hh ho => ?_⟩
    · simp (disch := omega) only [bnd_nr, li_0, li_1, li_2, li_3, li_4, li_5, li_6, li_7, li_8, li_9, li_10, li_11, li_12, li_13, li_14, li_15, li_16, li_17, li_18, li_19, li_20, li_21, li_22, li_23, li_24, li_25, li_26, li_27, li_28, li_29, li_30, li_31, li_32, li_33, li_34, li_35, li_36, li_37, li_38, li_39, li_40, li_41, li_42, li_43, li_44, li_45, li_46, li_47, li_48, li_49, li_50, li_51, li_52, li_53, li_54, li_55, li_56, li_57, li_58, li_59, li_60, li_61, li_62, li_63, li_64, li_74, li_86, li_87, li_88, li_96, li_97, li_98, li_99, li_100, li_101, li_102, li_103, li_104, li_105, li_107, li_108, li_109, li_110, li_111, li_112, li_114, li_115, li_116, li_117, li_118, li_121, li_122, li_124, li_136, li_148, li_160, li_680, li_200, li_201, li_255, li_700, li_950, li_1000, li_1400, li_3440, li_4096, li_9999, li_10000, li_20000, li_20033, li_20038, li_20124, li_32767, li_65535, li_1103515245, li_12345, li_m, sx_grd, sx_clamp, nI_add, sx_sub, pk_mul, sx_le, sx_lt, sx_eq, sx_eqm, sx_meq, sx_lem, sx_mle, sx_ltm, sx_mlt, sx_addm, sx_shl, sx_bit1, sx_bit0, fa_or, uA_s, uA_n, sA_s, sA_n, sx_uA, sx_uAn, sx_sAs, pk_us, pk_un, if_true, if_false, if_pos, if_neg, ob_some, Nat.add_zero, Nat.add_sub_cancel, eq_self, ne_eq, not_true, not_false_iff, false_or, true_or, or_false, or_true, false_and, true_and, and_false, and_true, y0]
    · simp (disch := omega) only [bnd_nr, li_0, li_1, li_2, li_3, li_4, li_5, li_6, li_7, li_8, li_9, li_10, li_11, li_12, li_13, li_14, li_15, li_16, li_17, li_18, li_19, li_20, li_21, li_22, li_23, li_24, li_25, li_26, li_27, li_28, li_29, li_30, li_31, li_32, li_33, li_34, li_35, li_36, li_37, li_38, li_39, li_40, li_41, li_42, li_43, li_44, li_45, li_46, li_47, li_48, li_49, li_50, li_51, li_52, li_53, li_54, li_55, li_56, li_57, li_58, li_59, li_60, li_61, li_62, li_63, li_64, li_74, li_86, li_87, li_88, li_96, li_97, li_98, li_99, li_100, li_101, li_102, li_103, li_104, li_105, li_107, li_108, li_109, li_110, li_111, li_112, li_114, li_115, li_116, li_117, li_118, li_121, li_122, li_124, li_136, li_148, li_160, li_680, li_200, li_201, li_255, li_700, li_950, li_1000, li_1400, li_3440, li_4096, li_9999, li_10000, li_20000, li_20033, li_20038, li_20124, li_32767, li_65535, li_1103515245, li_12345, li_m, sx_grd, sx_clamp, nI_add, sx_sub, pk_mul, sx_le, sx_lt, sx_eq, sx_eqm, sx_meq, sx_lem, sx_mle, sx_ltm, sx_mlt, sx_addm, sx_shl, sx_bit1, sx_bit0, fa_or, uA_s, uA_n, sA_s, sA_n, sx_uA, sx_uAn, sx_sAs, pk_us, pk_un, if_true, if_false, if_pos, if_neg, ob_some, Nat.add_zero, Nat.add_sub_cancel, eq_self, ne_eq, not_true, not_false_iff, false_or, true_or, or_false, or_true, false_and, true_and, and_false, and_true]
    · simp (disch := omega) only [bnd_nr, li_0, li_1, li_2, li_3, li_4, li_5, li_6, li_7, li_8, li_9, li_10, li_11, li_12, li_13, li_14, li_15, li_16, li_17, li_18, li_19, li_20, li_21, li_22, li_23, li_24, li_25, li_26, li_27, li_28, li_29, li_30, li_31, li_32, li_33, li_34, li_35, li_36, li_37, li_38, li_39, li_40, li_41, li_42, li_43, li_44, li_45, li_46, li_47, li_48, li_49, li_50, li_51, li_52, li_53, li_54, li_55, li_56, li_57, li_58, li_59, li_60, li_61, li_62, li_63, li_64, li_74, li_86, li_87, li_88, li_96, li_97, li_98, li_99, li_100, li_101, li_102, li_103, li_104, li_105, li_107, li_108, li_109, li_110, li_111, li_112, li_114, li_115, li_116, li_117, li_118, li_121, li_122, li_124, li_136, li_148, li_160, li_680, li_200, li_201, li_255, li_700, li_950, li_1000, li_1400, li_3440, li_4096, li_9999, li_10000, li_20000, li_20033, li_20038, li_20124, li_32767, li_65535, li_1103515245, li_12345, li_m, sx_grd, sx_clamp, nI_add, sx_sub, pk_mul, sx_le, sx_lt, sx_eq, sx_eqm, sx_meq, sx_lem, sx_mle, sx_ltm, sx_mlt, sx_addm, sx_shl, sx_bit1, sx_bit0, fa_or, uA_s, uA_n, sA_s, sA_n, sx_uA, sx_uAn, sx_sAs, pk_us, pk_un, if_true, if_false, if_pos, if_neg, ob_some, Nat.add_zero, Nat.add_sub_cancel, eq_self, ne_eq, not_true, not_false_iff, false_or, true_or, or_false, or_true, false_and, true_and, and_false, and_true]
      rw [y1 p hp, if_pos (ha p hp)]
    · rw [uA_n (by omega)]; exact y2 j h1 h2
    · simp (disch := omega) only [bnd_nr, li_0, li_1, li_2, li_3, li_4, li_5, li_6, li_7, li_8, li_9, li_10, li_11, li_12, li_13, li_14, li_15, li_16, li_17, li_18, li_19, li_20, li_21, li_22, li_23, li_24, li_25, li_26, li_27, li_28, li_29, li_30, li_31, li_32, li_33, li_34, li_35, li_36, li_37, li_38, li_39, li_40, li_41, li_42, li_43, li_44, li_45, li_46, li_47, li_48, li_49, li_50, li_51, li_52, li_53, li_54, li_55, li_56, li_57, li_58, li_59, li_60, li_61, li_62, li_63, li_64, li_74, li_86, li_87, li_88, li_96, li_97, li_98, li_99, li_100, li_101, li_102, li_103, li_104, li_105, li_107, li_108, li_109, li_110, li_111, li_112, li_114, li_115, li_116, li_117, li_118, li_121, li_122, li_124, li_136, li_148, li_160, li_680, li_200, li_201, li_255, li_700, li_950, li_1000, li_1400, li_3440, li_4096, li_9999, li_10000, li_20000, li_20033, li_20038, li_20124, li_32767, li_65535, li_1103515245, li_12345, li_m, sx_grd, sx_clamp, nI_add, sx_sub, pk_mul, sx_le, sx_lt, sx_eq, sx_eqm, sx_meq, sx_lem, sx_mle, sx_ltm, sx_mlt, sx_addm, sx_shl, sx_bit1, sx_bit0, fa_or, uA_s, uA_n, sA_s, sA_n, sx_uA, sx_uAn, sx_sAs, pk_us, pk_un, if_true, if_false, if_pos, if_neg, ob_some, Nat.add_zero, Nat.add_sub_cancel, eq_self, ne_eq, not_true, not_false_iff, false_or, true_or, or_false, or_true, false_and, true_and, and_false, and_true]
      exact y3 h hh ho
  · intro k i c z hi ⟨hc, Y, hz, y0, y1, y2, y3, y4⟩ hk; subst hc; subst hz
    show RT (f_X12_falls0_L4 (nI b) (k + 1) _ (nI i) _) _
    have cti := ctl i
    have hmk := msk31 (f := fun p => !out p && decide (a p = i)) (n := n) (by omega)
    have e : f_X12_inHouse (I, w, sA A 10 (rowf f b Y)) (nI b) (nI i) = some (nI (msk (fun p => !out p && decide (a p = i)) n)) := by
      rw [g_inHouse (M := (I, w, sA A 10 (rowf f b Y))) hI hn hb (nI i)]
      refine congrArg some (congrArg nI (msk_cong (fun p hp => ?_)))
      have hap := ha p hp
      have := ctl (a p)
      simp (disch := omega) only [bnd_nr, li_0, li_1, li_2, li_3, li_4, li_5, li_6, li_7, li_8, li_9, li_10, li_11, li_12, li_13, li_14, li_15, li_16, li_17, li_18, li_19, li_20, li_21, li_22, li_23, li_24, li_25, li_26, li_27, li_28, li_29, li_30, li_31, li_32, li_33, li_34, li_35, li_36, li_37, li_38, li_39, li_40, li_41, li_42, li_43, li_44, li_45, li_46, li_47, li_48, li_49, li_50, li_51, li_52, li_53, li_54, li_55, li_56, li_57, li_58, li_59, li_60, li_61, li_62, li_63, li_64, li_74, li_86, li_87, li_88, li_96, li_97, li_98, li_99, li_100, li_101, li_102, li_103, li_104, li_105, li_107, li_108, li_109, li_110, li_111, li_112, li_114, li_115, li_116, li_117, li_118, li_121, li_122, li_124, li_136, li_148, li_160, li_680, li_200, li_201, li_255, li_700, li_950, li_1000, li_1400, li_3440, li_4096, li_9999, li_10000, li_20000, li_20033, li_20038, li_20124, li_32767, li_65535, li_1103515245, li_12345, li_m, sx_grd, sx_clamp, nI_add, sx_sub, pk_mul, sx_le, sx_lt, sx_eq, sx_eqm, sx_meq, sx_lem, sx_mle, sx_ltm, sx_mlt, sx_addm, sx_shl, sx_bit1, sx_bit0, fa_or, uA_s, uA_n, sA_s, sA_n, sx_uA, sx_uAn, sx_sAs, pk_us, pk_un, if_true, if_false, if_pos, if_neg, ob_some, Nat.add_zero, Nat.add_sub_cancel, eq_self, ne_eq, not_true, not_false_iff, false_or, true_or, or_false, or_true, false_and, true_and, and_false, and_true, rowf_00, rowf_01, rowf_2, rowf_14, rowf_26, rowf_38, rowf_50, rowf_62, rowf_74, rowf_u00, rowf_u01, rowf_u2, rowf_u14, rowf_u26, rowf_u38, rowf_u50, rowf_u62, rowf_u74, y1 p hp]
      cases out p
      · simp only [Bool.not_false, Bool.true_and, Bool.false_eq_true, if_false]
        by_cases q : a p < i
        · rw [if_pos q]; simp (disch := omega) only [sx_eq]; exact decide_eq_decide.mpr (by omega)
        · rw [if_neg q]; simp (disch := omega) only [sx_eq]
      · simp (disch := omega) only [Bool.not_true, Bool.false_and, if_true, sx_meq, decide_false]
    unfold f_X12_falls0_L4
    simp (disch := omega) only [bnd_nr, li_0, li_1, li_2, li_3, li_4, li_5, li_6, li_7, li_8, li_9, li_10, li_11, li_12, li_13, li_14, li_15, li_16, li_17, li_18, li_19, li_20, li_21, li_22, li_23, li_24, li_25, li_26, li_27, li_28, li_29, li_30, li_31, li_32, li_33, li_34, li_35, li_36, li_37, li_38, li_39, li_40, li_41, li_42, li_43, li_44, li_45, li_46, li_47, li_48, li_49, li_50, li_51, li_52, li_53, li_54, li_55, li_56, li_57, li_58, li_59, li_60, li_61, li_62, li_63, li_64, li_74, li_86, li_87, li_88, li_96, li_97, li_98, li_99, li_100, li_101, li_102, li_103, li_104, li_105, li_107, li_108, li_109, li_110, li_111, li_112, li_114, li_115, li_116, li_117, li_118, li_121, li_122, li_124, li_136, li_148, li_160, li_680, li_200, li_201, li_255, li_700, li_950, li_1000, li_1400, li_3440, li_4096, li_9999, li_10000, li_20000, li_20033, li_20038, li_20124, li_32767, li_65535, li_1103515245, li_12345, li_m, sx_grd, sx_clamp, nI_add, sx_sub, pk_mul, sx_le, sx_lt, sx_eq, sx_eqm, sx_meq, sx_lem, sx_mle, sx_ltm, sx_mlt, sx_addm, sx_shl, sx_bit1, sx_bit0, fa_or, uA_s, uA_n, sA_s, sA_n, sx_uA, sx_uAn, sx_sAs, pk_us, pk_un, if_true, if_false, if_pos, if_neg, ob_some, Nat.add_zero, Nat.add_sub_cancel, eq_self, ne_eq, not_true, not_false_iff, false_or, true_or, or_false, or_true, false_and, true_and, and_false, and_true, rowf_00, rowf_01, rowf_2, rowf_14, rowf_26, rowf_38, rowf_50, rowf_62, rowf_74, rowf_u00, rowf_u01, rowf_u2, rowf_u14, rowf_u26, rowf_u38, rowf_u50, rowf_u62, rowf_u74, y0, h01, e]
    refine RT.ite (fun q => ?_) (fun q => ?_)
    · have q1 : oc out a n i = false := by
        unfold oc; rw [msk_zero.mp q]; rfl
      refine hk _ _ ⟨by rw [ct_no q1], Y, rfl, y0, fun p hp => ?_, y2, fun h hh ho => ?_, fun h hh => y4 h (by omega)⟩
      · rw [y1 p hp]
        cases hout : out p
        · have : a p ≠ i := fun e9 => by
            have := oc_of (a := a) hp hout
            rw [e9, q1] at this; cases this
          simp only [Bool.false_eq_true, if_false]
          by_cases d : a p < i
          · rw [if_pos d, if_pos (by omega)]
          · rw [if_neg d, if_neg (by omega)]
        · rfl
      · rcases Nat.lt_or_ge h i with d | d
        · exact y3 h d ho
        · have : h = i := by omega
          subst this; rw [q1] at ho; cases ho
    · have q1 : oc out a n i = true := by
        have q2 : ¬ fb_ct (fun p => !out p && decide (a p = i)) n = 0 := fun z => q (msk_zero.mpr z)
        exact decide_eq_true (by omega)
      refine RT.loop0 (fun k2 q z => f_X12_falls0_L35 (f_X12_falls0_L4 (nI b) k) (nI b) (nI (fb_ct (oc out a n) i)) (nI i) (nI (msk (fun p => !out p && decide (a p = i)) n)) k2 (nI q) z) n (fun q z => z = (I, w, sA A 10 (rowf f b (sA Y 1 (fa_fill (fun p => if (!out p && decide (a p = i)) then nI (fb_ct (oc out a n) i) else Y 1 p) (Y 1) q))))) _ _ (by omega) ?_ ?_ ?_
      · rw [fa_fill_0, sA_self]
      · intro k2 z hz; subst hz
        show RT (f_X12_falls0_L35 (f_X12_falls0_L4 (nI b) k) (nI b) _ (nI i) _ (k2 + 1) (nI n) _) _
        unfold f_X12_falls0_L35
        simp (disch := omega) only [bnd_nr, li_0, li_1, li_2, li_3, li_4, li_5, li_6, li_7, li_8, li_9, li_10, li_11, li_12, li_13, li_14, li_15, li_16, li_17, li_18, li_19, li_20, li_21, li_22, li_23, li_24, li_25, li_26, li_27, li_28, li_29, li_30, li_31, li_32, li_33, li_34, li_35, li_36, li_37, li_38, li_39, li_40, li_41, li_42, li_43, li_44, li_45, li_46, li_47, li_48, li_49, li_50, li_51, li_52, li_53, li_54, li_55, li_56, li_57, li_58, li_59, li_60, li_61, li_62, li_63, li_64, li_74, li_86, li_87, li_88, li_96, li_97, li_98, li_99, li_100, li_101, li_102, li_103, li_104, li_105, li_107, li_108, li_109, li_110, li_111, li_112, li_114, li_115, li_116, li_117, li_118, li_121, li_122, li_124, li_136, li_148, li_160, li_680, li_200, li_201, li_255, li_700, li_950, li_1000, li_1400, li_3440, li_4096, li_9999, li_10000, li_20000, li_20033, li_20038, li_20124, li_32767, li_65535, li_1103515245, li_12345, li_m, sx_grd, sx_clamp, nI_add, sx_sub, pk_mul, sx_le, sx_lt, sx_eq, sx_eqm, sx_meq, sx_lem, sx_mle, sx_ltm, sx_mlt, sx_addm, sx_shl, sx_bit1, sx_bit0, fa_or, uA_s, uA_n, sA_s, sA_n, sx_uA, sx_uAn, sx_sAs, pk_us, pk_un, if_true, if_false, if_pos, if_neg, ob_some, Nat.add_zero, Nat.add_sub_cancel, eq_self, ne_eq, not_true, not_false_iff, false_or, true_or, or_false, or_true, false_and, true_and, and_false, and_true, rowf_00, rowf_01, rowf_2, rowf_14, rowf_26, rowf_38, rowf_50, rowf_62, rowf_74, rowf_u00, rowf_u01, rowf_u2, rowf_u14, rowf_u26, rowf_u38, rowf_u50, rowf_u62, rowf_u74, hI]
        refine hk _ _ ⟨by rw [ct_yes q1], _, rfl, ?_, fun p hp => ?_, fun j h1 h2 => ?_, fun h hh ho => ?_, fun h hh => ?_⟩
        · simp (disch := omega) only [bnd_nr, li_0, li_1, li_2, li_3, li_4, li_5, li_6, li_7, li_8, li_9, li_10, li_11, li_12, li_13, li_14, li_15, li_16, li_17, li_18, li_19, li_20, li_21, li_22, li_23, li_24, li_25, li_26, li_27, li_28, li_29, li_30, li_31, li_32, li_33, li_34, li_35, li_36, li_37, li_38, li_39, li_40, li_41, li_42, li_43, li_44, li_45, li_46, li_47, li_48, li_49, li_50, li_51, li_52, li_53, li_54, li_55, li_56, li_57, li_58, li_59, li_60, li_61, li_62, li_63, li_64, li_74, li_86, li_87, li_88, li_96, li_97, li_98, li_99, li_100, li_101, li_102, li_103, li_104, li_105, li_107, li_108, li_109, li_110, li_111, li_112, li_114, li_115, li_116, li_117, li_118, li_121, li_122, li_124, li_136, li_148, li_160, li_680, li_200, li_201, li_255, li_700, li_950, li_1000, li_1400, li_3440, li_4096, li_9999, li_10000, li_20000, li_20033, li_20038, li_20124, li_32767, li_65535, li_1103515245, li_12345, li_m, sx_grd, sx_clamp, nI_add, sx_sub, pk_mul, sx_le, sx_lt, sx_eq, sx_eqm, sx_meq, sx_lem, sx_mle, sx_ltm, sx_mlt, sx_addm, sx_shl, sx_bit1, sx_bit0, fa_or, uA_s, uA_n, sA_s, sA_n, sx_uA, sx_uAn, sx_sAs, pk_us, pk_un, if_true, if_false, if_pos, if_neg, ob_some, Nat.add_zero, Nat.add_sub_cancel, eq_self, ne_eq, not_true, not_false_iff, false_or, true_or, or_false, or_true, false_and, true_and, and_false, and_true, y0]
        · simp (disch := omega) only [bnd_nr, li_0, li_1, li_2, li_3, li_4, li_5, li_6, li_7, li_8, li_9, li_10, li_11, li_12, li_13, li_14, li_15, li_16, li_17, li_18, li_19, li_20, li_21, li_22, li_23, li_24, li_25, li_26, li_27, li_28, li_29, li_30, li_31, li_32, li_33, li_34, li_35, li_36, li_37, li_38, li_39, li_40, li_41, li_42, li_43, li_44, li_45, li_46, li_47, li_48, li_49, li_50, li_51, li_52, li_53, li_54, li_55, li_56, li_57, li_58, li_59, li_60, li_61, li_62, li_63, li_64, li_74, li_86, li_87, li_88, li_96, li_97, li_98, li_99, li_100, li_101, li_102, li_103, li_104, li_105, li_107, li_108, li_109, li_110, li_111, li_112, li_114, li_115, li_116, li_117, li_118, li_121, li_122, li_124, li_136, li_148, li_160, li_680, li_200, li_201, li_255, li_700, li_950, li_1000, li_1400, li_3440, li_4096, li_9999, li_10000, li_20000, li_20033, li_20038, li_20124, li_32767, li_65535, li_1103515245, li_12345, li_m, sx_grd, sx_clamp, nI_add, sx_sub, pk_mul, sx_le, sx_lt, sx_eq, sx_eqm, sx_meq, sx_lem, sx_mle, sx_ltm, sx_mlt, sx_addm, sx_shl, sx_bit1, sx_bit0, fa_or, uA_s, uA_n, sA_s, sA_n, sx_uA, sx_uAn, sx_sAs, pk_us, pk_un, if_true, if_false, if_pos, if_neg, ob_some, Nat.add_zero, Nat.add_sub_cancel, eq_self, ne_eq, not_true, not_false_iff, false_or, true_or, or_false, or_true, false_and, true_and, and_false, and_true]
          rw [fa_fill_in hp, y1 p hp]
          cases hout : out p
          · simp only [Bool.not_false, Bool.true_and, Bool.false_eq_true, if_false, decide_eq_true_eq]
            by_cases d : a p = i
            · rw [if_pos d, if_pos (by omega), d]
            · rw [if_neg d]
              by_cases d2 : a p < i
              · rw [if_pos d2, if_pos (by omega)]
              · rw [if_neg d2, if_neg (by omega)]
          · simp only [Bool.not_true, Bool.false_and, Bool.false_eq_true, if_false, if_true]
        · rw [sA_n (by omega), uA_n (by omega), uA_n (by omega)]; exact y2 j h1 h2
        · simp (disch := omega) only [bnd_nr, li_0, li_1, li_2, li_3, li_4, li_5, li_6, li_7, li_8, li_9, li_10, li_11, li_12, li_13, li_14, li_15, li_16, li_17, li_18, li_19, li_20, li_21, li_22, li_23, li_24, li_25, li_26, li_27, li_28, li_29, li_30, li_31, li_32, li_33, li_34, li_35, li_36, li_37, li_38, li_39, li_40, li_41, li_42, li_43, li_44, li_45, li_46, li_47, li_48, li_49, li_50, li_51, li_52, li_53, li_54, li_55, li_56, li_57, li_58, li_59, li_60, li_61, li_62, li_63, li_64, li_74, li_86, li_87, li_88, li_96, li_97, li_98, li_99, li_100, li_101, li_102, li_103, li_104, li_105, li_107, li_108, li_109, li_110, li_111, li_112, li_114, li_115, li_116, li_117, li_118, li_121, li_122, li_124, li_136, li_148, li_160, li_680, li_200, li_201, li_255, li_700, li_950, li_1000, li_1400, li_3440, li_4096, li_9999, li_10000, li_20000, li_20033, li_20038, li_20124, li_32767, li_65535, li_1103515245, li_12345, li_m, sx_grd, sx_clamp, nI_add, sx_sub, pk_mul, sx_le, sx_lt, sx_eq, sx_eqm, sx_meq, sx_lem, sx_mle, sx_ltm, sx_mlt, sx_addm, sx_shl, sx_bit1, sx_bit0, fa_or, uA_s, uA_n, sA_s, sA_n, sx_uA, sx_uAn, sx_sAs, pk_us, pk_un, if_true, if_false, if_pos, if_neg, ob_some, Nat.add_zero, Nat.add_sub_cancel, eq_self, ne_eq, not_true, not_false_iff, false_or, true_or, or_false, or_true, false_and, true_and, and_false, and_true]
          rcases Nat.lt_or_ge h i with d | d
          · have := ct_lt d ho
            rw [pk_un (by omega), pk_un (by omega)]
            exact y3 h d ho
          · have : h = i := by omega
            subst this
            rw [pk_us, pk_us]
            exact y4 h (by omega)
        · simp (disch := omega) only [bnd_nr, li_0, li_1, li_2, li_3, li_4, li_5, li_6, li_7, li_8, li_9, li_10, li_11, li_12, li_13, li_14, li_15, li_16, li_17, li_18, li_19, li_20, li_21, li_22, li_23, li_24, li_25, li_26, li_27, li_28, li_29, li_30, li_31, li_32, li_33, li_34, li_35, li_36, li_37, li_38, li_39, li_40, li_41, li_42, li_43, li_44, li_45, li_46, li_47, li_48, li_49, li_50, li_51, li_52, li_53, li_54, li_55, li_56, li_57, li_58, li_59, li_60, li_61, li_62, li_63, li_64, li_74, li_86, li_87, li_88, li_96, li_97, li_98, li_99, li_100, li_101, li_102, li_103, li_104, li_105, li_107, li_108, li_109, li_110, li_111, li_112, li_114, li_115, li_116, li_117, li_118, li_121, li_122, li_124, li_136, li_148, li_160, li_680, li_200, li_201, li_255, li_700, li_950, li_1000, li_1400, li_3440, li_4096, li_9999, li_10000, li_20000, li_20033, li_20038, li_20124, li_32767, li_65535, li_1103515245, li_12345, li_m, sx_grd, sx_clamp, nI_add, sx_sub, pk_mul, sx_le, sx_lt, sx_eq, sx_eqm, sx_meq, sx_lem, sx_mle, sx_ltm, sx_mlt, sx_addm, sx_shl, sx_bit1, sx_bit0, fa_or, uA_s, uA_n, sA_s, sA_n, sx_uA, sx_uAn, sx_sAs, pk_us, pk_un, if_true, if_false, if_pos, if_neg, ob_some, Nat.add_zero, Nat.add_sub_cancel, eq_self, ne_eq, not_true, not_false_iff, false_or, true_or, or_false, or_true, false_and, true_and, and_false, and_true]
          exact y4 h (by omega)
      · intro k2 p z hp hz hk2; subst hz
        show RT (f_X12_falls0_L35 (f_X12_falls0_L4 (nI b) k) (nI b) _ (nI i) _ (k2 + 1) (nI p) _) _
        unfold f_X12_falls0_L35
        simp (disch := omega) only [bnd_nr, li_0, li_1, li_2, li_3, li_4, li_5, li_6, li_7, li_8, li_9, li_10, li_11, li_12, li_13, li_14, li_15, li_16, li_17, li_18, li_19, li_20, li_21, li_22, li_23, li_24, li_25, li_26, li_27, li_28, li_29, li_30, li_31, li_32, li_33, li_34, li_35, li_36, li_37, li_38, li_39, li_40, li_41, li_42, li_43, li_44, li_45, li_46, li_47, li_48, li_49, li_50, li_51, li_52, li_53, li_54, li_55, li_56, li_57, li_58, li_59, li_60, li_61, li_62, li_63, li_64, li_74, li_86, li_87, li_88, li_96, li_97, li_98, li_99, li_100, li_101, li_102, li_103, li_104, li_105, li_107, li_108, li_109, li_110, li_111, li_112, li_114, li_115, li_116, li_117, li_118, li_121, li_122, li_124, li_136, li_148, li_160, li_680, li_200, li_201, li_255, li_700, li_950, li_1000, li_1400, li_3440, li_4096, li_9999, li_10000, li_20000, li_20033, li_20038, li_20124, li_32767, li_65535, li_1103515245, li_12345, li_m, sx_grd, sx_clamp, nI_add, sx_sub, pk_mul, sx_le, sx_lt, sx_eq, sx_eqm, sx_meq, sx_lem, sx_mle, sx_ltm, sx_mlt, sx_addm, sx_shl, sx_bit1, sx_bit0, fa_or, uA_s, uA_n, sA_s, sA_n, sx_uA, sx_uAn, sx_sAs, pk_us, pk_un, if_true, if_false, if_pos, if_neg, ob_some, Nat.add_zero, Nat.add_sub_cancel, eq_self, ne_eq, not_true, not_false_iff, false_or, true_or, or_false, or_true, false_and, true_and, and_false, and_true, rowf_00, rowf_01, rowf_2, rowf_14, rowf_26, rowf_38, rowf_50, rowf_62, rowf_74, rowf_u00, rowf_u01, rowf_u2, rowf_u14, rowf_u26, rowf_u38, rowf_u50, rowf_u62, rowf_u74, hI]
        rw [msk_bit, decide_eq_true hp, Bool.true_and]
        refine RT.ite (fun d => hk2 _ ?_) (fun d => hk2 _ ?_)
        · rw [fill_up (if_pos d)]
        · rw [fill_keep (if_neg d)]
/-! the class's: new numbers in a long -/
def nums (P : Nat → Bool) : Nat → Nat | 0 => 0 | h + 1 => nums P h + (if P h then fb_ct P h else 0) * 16 ^ h
theorem nums_lt (P : Nat → Bool) : ∀ {h : Nat}, h ≤ 13 → nums P h < 16 ^ h
  | 0, _ => by simp [nums]
  | h + 1, hh => by
    have := nums_lt P (h := h) (by omega)
    have b := fb_ct_le P h
    have c : (if P h then fb_ct P h else 0) ≤ 15 := by split <;> omega
    have m : (if P h then fb_ct P h else 0) * 16 ^ h ≤ 15 * 16 ^ h := Nat.mul_le_mul_right _ c
    rw [nums, Nat.pow_succ]
    omega
theorem nums_at (P : Nat → Bool) {k : Nat} (c : P k = true) : ∀ {h : Nat}, h ≤ 13 → k < h → nums P h / 16 ^ k % 16 = fb_ct P k
  | 0, _, hk => absurd hk (Nat.not_lt_zero _)
  | h + 1, hh, hk => by
    rcases Nat.lt_or_ge k h with q | q
    · have ih := nums_at P c (h := h) (by omega) q
      obtain ⟨d, rfl⟩ : ∃ d, h = k + 1 + d := ⟨h - k - 1, by omega⟩
      rw [nums, show (if P (k + 1 + d) then fb_ct P (k + 1 + d) else 0) * 16 ^ (k + 1 + d) = 16 ^ k * (16 * ((if P (k + 1 + d) then fb_ct P (k + 1 + d) else 0) * 16 ^ d)) from by rw [Nat.pow_add, Nat.pow_succ]; ac_rfl, Nat.add_mul_div_left _ _ (Nat.pow_pos (by omega)), Nat.add_mul_mod_self_left]
      exact ih
    · have : k = h := by omega
      subst this
      have l := nums_lt P (h := k) (by omega)
      have b := fb_ct_le P k
      rw [nums, if_pos c, Nat.add_mul_div_right _ _ (Nat.pow_pos (by omega)), Nat.div_eq_of_lt l, Nat.zero_add, Nat.mod_eq_of_lt (by omega)]
theorem p16 (h : Nat) : 2 ^ (4 * h) = 16 ^ h := by rw [Nat.pow_mul]
theorem nums_big (P : Nat → Bool) {h : Nat} (hh : h ≤ 13) : nums P h < 2 ^ 62 := Nat.lt_of_lt_of_le (nums_lt P hh) (by rw [← p16]; exact Nat.pow_le_pow_right (by omega) (by omega))
theorem wb_shl' {n k : Nat} (hn : n < 2147483648) (hk : k < 64) : (nI n).toInt64 <<< ((nI k).toInt64 &&& 63) = lN (n * 2 ^ k) := by rw [nI_l hn, wb_shl n hk]
theorem nums_or (P : Nat → Bool) {h : Nat} (hh : h < 13) (c : P h = true) : lN (nums P h) ||| ((nI (fb_ct P h)).toInt64 <<< ((nI (4 * h)).toInt64 &&& 63)) = lN (nums P (h + 1)) := by
  have b := fb_ct_le P h
  rw [wb_shl' (by omega) (by omega), p16, g_or' (p16 h) (nums_lt P (by omega)) ?_]
  · rw [nums, if_pos c]
  · have := nums_big P (h := h + 1) (by omega)
    rw [nums, if_pos c] at this
    omega
theorem nums_rd (P : Nat → Bool) {k h : Nat} (hh : h ≤ 13) (hk : k < h) (c : P k = true) : ((lN (nums P h)).toUInt64 >>> ((nI (4 * k)).toInt64.toUInt64 &&& Int64.toUInt64 63)).toInt64.toInt32 &&& nI 15 = nI (fb_ct P k) := by
  have l := nums_big P hh
  rw [wb_shr (by omega) (by omega), lN_i, show nI 15 = nI (2 ^ 4 - 1) from rfl, fa_mask, p16, show (2 : Nat) ^ 4 = 16 from rfl, nums_at P c hh hk]
theorem c_drop {v : Ob} {U : VT} (hv : VC v U) (w : WFP U) : RT (f_X10_dropEmpty v) (fun r => VC r (dropV U)) := by
  refine RT.cps (fun Q hQ => ?_)
  obtain ⟨I, A⟩ := v
  obtain ⟨⟨v1, v2, v3⟩, v4, v5⟩ := hv
  have v1 : I 0 = nI (vn U) := v1
  have v2 : I 1 = nI (vh U) := v2
  obtain ⟨⟨w1, w2, w3⟩, w4, w5, w6⟩ := w
  have ctl : ∀ h, nx U h ≤ h := fun h => fb_ct_le _ _
  unfold f_X10_dropEmpty
  simp only [bnd]
  refine RT.loop0_3 (fun k i (l1 : Int64) (l3 : Int32) (z : Ob) => f_X10_dropEmpty_L7 k l1 l3 (nI i) z) (vh U) (fun i l1 l3 z => l1 = lN (nums (ne U) i) ∧ l3 = nI (nx U i) ∧ ∃ B : Nat → Nat → Int32, z = (I, B) ∧ (∀ j, j ≠ 6 → j ≠ 7 → B j = A j) ∧ (∀ h, h < i → ne U h = true → B 6 (nx U h) = nI (sz U h) ∧ B 7 (nx U h) = nI (ve U - ol U h)) ∧ ∀ h, i ≤ h → h < vh U → B 6 h = nI (sz U h) ∧ B 7 h = nI (ve U - ol U h)) _ _ _ _ (by omega) ?_ ?_ ?_
  · exact ⟨rfl, rfl, A, rfl, fun _ _ _ => rfl, fun h hh => absurd hh (Nat.not_lt_zero _), fun h _ hh => v5 h hh⟩
  · intro k l1 l3 z ⟨e1, e2, B, e3, b1, b2, b3⟩; subst e1; subst e2; subst e3
    show RT (f_X10_dropEmpty_L7 (k + 1) _ _ (nI (vh U)) _) _
    have c1 := ctl (vh U)
    have last : ∀ k, k < nx U (vh U) → B 6 k = nI (sz (dropV U) k) ∧ B 7 k = nI (ve U - ol U (kt (ne U) (vh U) k)) := by
      intro k hk
      obtain ⟨a, a1, a2, a3⟩ := nx_kth hk
      rw [← a3, sz_drop a2, show nx U a = fb_ct (ne U) a from rfl, kt_ct a1 a2]
      exact b2 a a1 a2
    unfold f_X10_dropEmpty_L7
    simp (disch := omega) only [bnd_nr, li_0, li_1, li_2, li_3, li_4, li_5, li_6, li_7, li_8, li_9, li_10, li_11, li_12, li_13, li_14, li_15, li_16, li_17, li_18, li_19, li_20, li_21, li_22, li_23, li_24, li_25, li_26, li_27, li_28, li_29, li_30, li_31, li_32, li_33, li_34, li_35, li_36, li_37, li_38, li_39, li_40, li_41, li_42, li_43, li_44, li_45, li_46, li_47, li_48, li_49, li_50, li_51, li_52, li_53, li_54, li_55, li_56, li_57, li_58, li_59, li_60, li_61, li_62, li_63, li_64, li_74, li_86, li_87, li_88, li_96, li_97, li_98, li_99, li_100, li_101, li_102, li_103, li_104, li_105, li_107, li_108, li_109, li_110, li_111, li_112, li_114, li_115, li_116, li_117, li_118, li_121, li_122, li_124, li_136, li_148, li_160, li_680, li_200, li_201, li_255, li_700, li_950, li_1000, li_1400, li_3440, li_4096, li_9999, li_10000, li_20000, li_20033, li_20038, li_20124, li_32767, li_65535, li_1103515245, li_12345, li_m, sx_grd, sx_clamp, nI_add, sx_sub, pk_mul, sx_le, sx_lt, sx_eq, sx_eqm, sx_meq, sx_lem, sx_mle, sx_ltm, sx_mlt, sx_addm, sx_shl, sx_bit1, sx_bit0, fa_or, uA_s, uA_n, sA_s, sA_n, sx_uA, sx_uAn, sx_sAs, pk_us, pk_un, if_true, if_false, if_pos, if_neg, ob_some, Nat.add_zero, Nat.add_sub_cancel, eq_self, ne_eq, not_true, not_false_iff, false_or, true_or, or_false, or_true, false_and, true_and, and_false, and_true, v2]
    refine RT.ite (fun c => ?_) (fun c => ?_)
    · have full : ∀ h, h ≤ vh U → nx U h = h := fun h hh => fb_ct_all.mpr (fun k hk => fb_ct_all.mp (show fb_ct (ne U) (vh U) = vh U from by
        have : nx U (vh U) = fb_ct (ne U) (vh U) := rfl
        omega) k (by omega))
      refine RT.done hQ ⟨⟨v1, ?_, v3⟩, fun p hp => ?_, fun k hk => last k hk⟩
      · show I 1 = nI (nx U (vh U))
        rw [full _ (Nat.le_refl _)]; exact v2
      · have q := v4 p hp
        have q1 := (w4 p hp).1
        show B 1 p = nI (rk U p) ∧ B 2 p = nI (nx U (ho U p)) ∧ B 3 p = nI (pl U p) ∧ B 4 p = nI (ve U - si U p) ∧ B 5 p = mv U p
        rw [b1 1 (by omega) (by omega), b1 2 (by omega) (by omega), b1 3 (by omega) (by omega), b1 4 (by omega) (by omega), b1 5 (by omega) (by omega), full _ (by omega)]
        exact q
    · refine RT.loop0 (fun k2 q z => f_X10_dropEmpty_L82 (lN (nums (ne U) (vh U))) (nI (nx U (vh U))) k2 (nI q) z) (vn U) (fun q z => z = (I, sA B 2 (fa_fill (fun p => nI (nx U (ho U p))) (B 2) q))) _ _ (by omega) ?_ ?_ ?_
      · rw [fa_fill_0, sA_self]
      · intro k2 z hz; subst hz
        show RT (f_X10_dropEmpty_L82 _ _ (k2 + 1) (nI (vn U)) _) _
        unfold f_X10_dropEmpty_L82
        simp (disch := omega) only [bnd_nr, li_0, li_1, li_2, li_3, li_4, li_5, li_6, li_7, li_8, li_9, li_10, li_11, li_12, li_13, li_14, li_15, li_16, li_17, li_18, li_19, li_20, li_21, li_22, li_23, li_24, li_25, li_26, li_27, li_28, li_29, li_30, li_31, li_32, li_33, li_34, li_35, li_36, li_37, li_38, li_39, li_40, li_41, li_42, li_43, li_44, li_45, li_46, li_47, li_48, li_49, li_50, li_51, li_52, li_53, li_54, li_55, li_56, li_57, li_58, li_59, li_60, li_61, li_62, li_63, li_64, li_74, li_86, li_87, li_88, li_96, li_97, li_98, li_99, li_100, li_101, li_102, li_103, li_104, li_105, li_107, li_108, li_109, li_110, li_111, li_112, li_114, li_115, li_116, li_117, li_118, li_121, li_122, li_124, li_136, li_148, li_160, li_680, li_200, li_201, li_255, li_700, li_950, li_1000, li_1400, li_3440, li_4096, li_9999, li_10000, li_20000, li_20033, li_20038, li_20124, li_32767, li_65535, li_1103515245, li_12345, li_m, sx_grd, sx_clamp, nI_add, sx_sub, pk_mul, sx_le, sx_lt, sx_eq, sx_eqm, sx_meq, sx_lem, sx_mle, sx_ltm, sx_mlt, sx_addm, sx_shl, sx_bit1, sx_bit0, fa_or, uA_s, uA_n, sA_s, sA_n, sx_uA, sx_uAn, sx_sAs, pk_us, pk_un, if_true, if_false, if_pos, if_neg, ob_some, Nat.add_zero, Nat.add_sub_cancel, eq_self, ne_eq, not_true, not_false_iff, false_or, true_or, or_false, or_true, false_and, true_and, and_false, and_true, v1]
        refine RT.done hQ ⟨⟨?_, ?_, ?_⟩, fun p hp => ?_, fun k hk => ?_⟩
        · simp (disch := omega) only [bnd_nr, li_0, li_1, li_2, li_3, li_4, li_5, li_6, li_7, li_8, li_9, li_10, li_11, li_12, li_13, li_14, li_15, li_16, li_17, li_18, li_19, li_20, li_21, li_22, li_23, li_24, li_25, li_26, li_27, li_28, li_29, li_30, li_31, li_32, li_33, li_34, li_35, li_36, li_37, li_38, li_39, li_40, li_41, li_42, li_43, li_44, li_45, li_46, li_47, li_48, li_49, li_50, li_51, li_52, li_53, li_54, li_55, li_56, li_57, li_58, li_59, li_60, li_61, li_62, li_63, li_64, li_74, li_86, li_87, li_88, li_96, li_97, li_98, li_99, li_100, li_101, li_102, li_103, li_104, li_105, li_107, li_108, li_109, li_110, li_111, li_112, li_114, li_115, li_116, li_117, li_118, li_121, li_122, li_124, li_136, li_148, li_160, li_680, li_200, li_201, li_255, li_700, li_950, li_1000, li_1400, li_3440, li_4096, li_9999, li_10000, li_20000, li_20033, li_20038, li_20124, li_32767, li_65535, li_1103515245, li_12345, li_m, sx_grd, sx_clamp, nI_add, sx_sub, pk_mul, sx_le, sx_lt, sx_eq, sx_eqm, sx_meq, sx_lem, sx_mle, sx_ltm, sx_mlt, sx_addm, sx_shl, sx_bit1, sx_bit0, fa_or, uA_s, uA_n, sA_s, sA_n, sx_uA, sx_uAn, sx_sAs, pk_us, pk_un, if_true, if_false, if_pos, if_neg, ob_some, Nat.add_zero, Nat.add_sub_cancel, eq_self, ne_eq, not_true, not_false_iff, false_or, true_or, or_false, or_true, false_and, true_and, and_false, and_true]; exact v1
        · simp (disch := omega) only [bnd_nr, li_0, li_1, li_2, li_3, li_4, li_5, li_6, li_7, li_8, li_9, li_10, li_11, li_12, li_13, li_14, li_15, li_16, li_17, li_18, li_19, li_20, li_21, li_22, li_23, li_24, li_25, li_26, li_27, li_28, li_29, li_30, li_31, li_32, li_33, li_34, li_35, li_36, li_37, li_38, li_39, li_40, li_41, li_42, li_43, li_44, li_45, li_46, li_47, li_48, li_49, li_50, li_51, li_52, li_53, li_54, li_55, li_56, li_57, li_58, li_59, li_60, li_61, li_62, li_63, li_64, li_74, li_86, li_87, li_88, li_96, li_97, li_98, li_99, li_100, li_101, li_102, li_103, li_104, li_105, li_107, li_108, li_109, li_110, li_111, li_112, li_114, li_115, li_116, li_117, li_118, li_121, li_122, li_124, li_136, li_148, li_160, li_680, li_200, li_201, li_255, li_700, li_950, li_1000, li_1400, li_3440, li_4096, li_9999, li_10000, li_20000, li_20033, li_20038, li_20124, li_32767, li_65535, li_1103515245, li_12345, li_m, sx_grd, sx_clamp, nI_add, sx_sub, pk_mul, sx_le, sx_lt, sx_eq, sx_eqm, sx_meq, sx_lem, sx_mle, sx_ltm, sx_mlt, sx_addm, sx_shl, sx_bit1, sx_bit0, fa_or, uA_s, uA_n, sA_s, sA_n, sx_uA, sx_uAn, sx_sAs, pk_us, pk_un, if_true, if_false, if_pos, if_neg, ob_some, Nat.add_zero, Nat.add_sub_cancel, eq_self, ne_eq, not_true, not_false_iff, false_or, true_or, or_false, or_true, false_and, true_and, and_false, and_true]; rfl
        · simp (disch := omega) only [bnd_nr, li_0, li_1, li_2, li_3, li_4, li_5, li_6, li_7, li_8, li_9, li_10, li_11, li_12, li_13, li_14, li_15, li_16, li_17, li_18, li_19, li_20, li_21, li_22, li_23, li_24, li_25, li_26, li_27, li_28, li_29, li_30, li_31, li_32, li_33, li_34, li_35, li_36, li_37, li_38, li_39, li_40, li_41, li_42, li_43, li_44, li_45, li_46, li_47, li_48, li_49, li_50, li_51, li_52, li_53, li_54, li_55, li_56, li_57, li_58, li_59, li_60, li_61, li_62, li_63, li_64, li_74, li_86, li_87, li_88, li_96, li_97, li_98, li_99, li_100, li_101, li_102, li_103, li_104, li_105, li_107, li_108, li_109, li_110, li_111, li_112, li_114, li_115, li_116, li_117, li_118, li_121, li_122, li_124, li_136, li_148, li_160, li_680, li_200, li_201, li_255, li_700, li_950, li_1000, li_1400, li_3440, li_4096, li_9999, li_10000, li_20000, li_20033, li_20038, li_20124, li_32767, li_65535, li_1103515245, li_12345, li_m, sx_grd, sx_clamp, nI_add, sx_sub, pk_mul, sx_le, sx_lt, sx_eq, sx_eqm, sx_meq, sx_lem, sx_mle, sx_ltm, sx_mlt, sx_addm, sx_shl, sx_bit1, sx_bit0, fa_or, uA_s, uA_n, sA_s, sA_n, sx_uA, sx_uAn, sx_sAs, pk_us, pk_un, if_true, if_false, if_pos, if_neg, ob_some, Nat.add_zero, Nat.add_sub_cancel, eq_self, ne_eq, not_true, not_false_iff, false_or, true_or, or_false, or_true, false_and, true_and, and_false, and_true]; exact v3
        · have hp : p < vn U := hp
          have q := v4 p hp
          simp (disch := omega) only [bnd_nr, li_0, li_1, li_2, li_3, li_4, li_5, li_6, li_7, li_8, li_9, li_10, li_11, li_12, li_13, li_14, li_15, li_16, li_17, li_18, li_19, li_20, li_21, li_22, li_23, li_24, li_25, li_26, li_27, li_28, li_29, li_30, li_31, li_32, li_33, li_34, li_35, li_36, li_37, li_38, li_39, li_40, li_41, li_42, li_43, li_44, li_45, li_46, li_47, li_48, li_49, li_50, li_51, li_52, li_53, li_54, li_55, li_56, li_57, li_58, li_59, li_60, li_61, li_62, li_63, li_64, li_74, li_86, li_87, li_88, li_96, li_97, li_98, li_99, li_100, li_101, li_102, li_103, li_104, li_105, li_107, li_108, li_109, li_110, li_111, li_112, li_114, li_115, li_116, li_117, li_118, li_121, li_122, li_124, li_136, li_148, li_160, li_680, li_200, li_201, li_255, li_700, li_950, li_1000, li_1400, li_3440, li_4096, li_9999, li_10000, li_20000, li_20033, li_20038, li_20124, li_32767, li_65535, li_1103515245, li_12345, li_m, sx_grd, sx_clamp, nI_add, sx_sub, pk_mul, sx_le, sx_lt, sx_eq, sx_eqm, sx_meq, sx_lem, sx_mle, sx_ltm, sx_mlt, sx_addm, sx_shl, sx_bit1, sx_bit0, fa_or, uA_s, uA_n, sA_s, sA_n, sx_uA, sx_uAn, sx_sAs, pk_us, pk_un, if_true, if_false, if_pos, if_neg, ob_some, Nat.add_zero, Nat.add_sub_cancel, eq_self, ne_eq, not_true, not_false_iff, false_or, true_or, or_false, or_true, false_and, true_and, and_false, and_true, fa_fill_in hp, b1]
          exact ⟨q.1, rfl, q.2.2⟩
        · simp (disch := omega) only [bnd_nr, li_0, li_1, li_2, li_3, li_4, li_5, li_6, li_7, li_8, li_9, li_10, li_11, li_12, li_13, li_14, li_15, li_16, li_17, li_18, li_19, li_20, li_21, li_22, li_23, li_24, li_25, li_26, li_27, li_28, li_29, li_30, li_31, li_32, li_33, li_34, li_35, li_36, li_37, li_38, li_39, li_40, li_41, li_42, li_43, li_44, li_45, li_46, li_47, li_48, li_49, li_50, li_51, li_52, li_53, li_54, li_55, li_56, li_57, li_58, li_59, li_60, li_61, li_62, li_63, li_64, li_74, li_86, li_87, li_88, li_96, li_97, li_98, li_99, li_100, li_101, li_102, li_103, li_104, li_105, li_107, li_108, li_109, li_110, li_111, li_112, li_114, li_115, li_116, li_117, li_118, li_121, li_122, li_124, li_136, li_148, li_160, li_680, li_200, li_201, li_255, li_700, li_950, li_1000, li_1400, li_3440, li_4096, li_9999, li_10000, li_20000, li_20033, li_20038, li_20124, li_32767, li_65535, li_1103515245, li_12345, li_m, sx_grd, sx_clamp, nI_add, sx_sub, pk_mul, sx_le, sx_lt, sx_eq, sx_eqm, sx_meq, sx_lem, sx_mle, sx_ltm, sx_mlt, sx_addm, sx_shl, sx_bit1, sx_bit0, fa_or, uA_s, uA_n, sA_s, sA_n, sx_uA, sx_uAn, sx_sAs, pk_us, pk_un, if_true, if_false, if_pos, if_neg, ob_some, Nat.add_zero, Nat.add_sub_cancel, eq_self, ne_eq, not_true, not_false_iff, false_or, true_or, or_false, or_true, false_and, true_and, and_false, and_true]
          exact last k hk
      · intro k2 p z hp hz hk2; subst hz
        show RT (f_X10_dropEmpty_L82 _ _ (k2 + 1) (nI p) _) _
        have q := (v4 p hp).2.1
        have q1 := (w4 p hp).1
        unfold f_X10_dropEmpty_L82
        simp (disch := omega) only [bnd_nr, li_0, li_1, li_2, li_3, li_4, li_5, li_6, li_7, li_8, li_9, li_10, li_11, li_12, li_13, li_14, li_15, li_16, li_17, li_18, li_19, li_20, li_21, li_22, li_23, li_24, li_25, li_26, li_27, li_28, li_29, li_30, li_31, li_32, li_33, li_34, li_35, li_36, li_37, li_38, li_39, li_40, li_41, li_42, li_43, li_44, li_45, li_46, li_47, li_48, li_49, li_50, li_51, li_52, li_53, li_54, li_55, li_56, li_57, li_58, li_59, li_60, li_61, li_62, li_63, li_64, li_74, li_86, li_87, li_88, li_96, li_97, li_98, li_99, li_100, li_101, li_102, li_103, li_104, li_105, li_107, li_108, li_109, li_110, li_111, li_112, li_114, li_115, li_116, li_117, li_118, li_121, li_122, li_124, li_136, li_148, li_160, li_680, li_200, li_201, li_255, li_700, li_950, li_1000, li_1400, li_3440, li_4096, li_9999, li_10000, li_20000, li_20033, li_20038, li_20124, li_32767, li_65535, li_1103515245, li_12345, li_m, sx_grd, sx_clamp, nI_add, sx_sub, pk_mul, sx_le, sx_lt, sx_eq, sx_eqm, sx_meq, sx_lem, sx_mle, sx_ltm, sx_mlt, sx_addm, sx_shl, sx_bit1, sx_bit0, fa_or, uA_s, uA_n, sA_s, sA_n, sx_uA, sx_uAn, sx_sAs, pk_us, pk_un, if_true, if_false, if_pos, if_neg, ob_some, Nat.add_zero, Nat.add_sub_cancel, eq_self, ne_eq, not_true, not_false_iff, false_or, true_or, or_false, or_true, false_and, true_and, and_false, and_true, v1, fill_at]
        refine hk2 _ ?_
        rw [fill_up]
        rw [b1 2 (by omega) (by omega), show A 2 p = nI (ho U p) from q, pk_mul]
        exact (nums_rd (ne U) (by omega) q1 (ne_ho hp)).symm
  · intro k i l1 l3 z hi ⟨e1, e2, B, e3, b1, b2, b3⟩ hk; subst e1; subst e2; subst e3
    show RT (f_X10_dropEmpty_L7 (k + 1) _ _ (nI i) _) _
    have c1 := ctl i
    obtain ⟨s1, s2⟩ := b3 i (Nat.le_refl _) hi
    have sl := sz_le U i
    unfold f_X10_dropEmpty_L7
    simp (disch := omega) only [bnd_nr, li_0, li_1, li_2, li_3, li_4, li_5, li_6, li_7, li_8, li_9, li_10, li_11, li_12, li_13, li_14, li_15, li_16, li_17, li_18, li_19, li_20, li_21, li_22, li_23, li_24, li_25, li_26, li_27, li_28, li_29, li_30, li_31, li_32, li_33, li_34, li_35, li_36, li_37, li_38, li_39, li_40, li_41, li_42, li_43, li_44, li_45, li_46, li_47, li_48, li_49, li_50, li_51, li_52, li_53, li_54, li_55, li_56, li_57, li_58, li_59, li_60, li_61, li_62, li_63, li_64, li_74, li_86, li_87, li_88, li_96, li_97, li_98, li_99, li_100, li_101, li_102, li_103, li_104, li_105, li_107, li_108, li_109, li_110, li_111, li_112, li_114, li_115, li_116, li_117, li_118, li_121, li_122, li_124, li_136, li_148, li_160, li_680, li_200, li_201, li_255, li_700, li_950, li_1000, li_1400, li_3440, li_4096, li_9999, li_10000, li_20000, li_20033, li_20038, li_20124, li_32767, li_65535, li_1103515245, li_12345, li_m, sx_grd, sx_clamp, nI_add, sx_sub, pk_mul, sx_le, sx_lt, sx_eq, sx_eqm, sx_meq, sx_lem, sx_mle, sx_ltm, sx_mlt, sx_addm, sx_shl, sx_bit1, sx_bit0, fa_or, uA_s, uA_n, sA_s, sA_n, sx_uA, sx_uAn, sx_sAs, pk_us, pk_un, if_true, if_false, if_pos, if_neg, ob_some, Nat.add_zero, Nat.add_sub_cancel, eq_self, ne_eq, not_true, not_false_iff, false_or, true_or, or_false, or_true, false_and, true_and, and_false, and_true, v2, s1, s2]
    refine RT.ite (fun c => ?_) (fun c => ?_)
    · have q1 : ne U i = false := decide_eq_false (by omega)
      refine hk _ _ _ ⟨?_, ?_, B, rfl, b1, fun h hh ho => ?_, fun h hh => b3 h (by omega)⟩
      · rw [nums, q1]; simp
      · rw [show nx U (i + 1) = nx U i from ct_no q1]
      · rcases Nat.lt_or_ge h i with d | d
        · exact b2 h d ho
        · have : h = i := by omega
          subst this; rw [q1] at ho; cases ho
    · have q1 : ne U i = true := decide_eq_true (by omega)
      refine hk _ _ _ ⟨nums_or (ne U) (by omega) q1, ?_, _, rfl, fun j h1 h2 => ?_, fun h hh ho => ?_, fun h hh h3 => ?_⟩
      · rw [show nx U (i + 1) = nx U i + 1 from ct_yes q1]
      · rw [uA_n h2, uA_n h1]; exact b1 j h1 h2
      · simp (disch := omega) only [bnd_nr, li_0, li_1, li_2, li_3, li_4, li_5, li_6, li_7, li_8, li_9, li_10, li_11, li_12, li_13, li_14, li_15, li_16, li_17, li_18, li_19, li_20, li_21, li_22, li_23, li_24, li_25, li_26, li_27, li_28, li_29, li_30, li_31, li_32, li_33, li_34, li_35, li_36, li_37, li_38, li_39, li_40, li_41, li_42, li_43, li_44, li_45, li_46, li_47, li_48, li_49, li_50, li_51, li_52, li_53, li_54, li_55, li_56, li_57, li_58, li_59, li_60, li_61, li_62, li_63, li_64, li_74, li_86, li_87, li_88, li_96, li_97, li_98, li_99, li_100, li_101, li_102, li_103, li_104, li_105, li_107, li_108, li_109, li_110, li_111, li_112, li_114, li_115, li_116, li_117, li_118, li_121, li_122, li_124, li_136, li_148, li_160, li_680, li_200, li_201, li_255, li_700, li_950, li_1000, li_1400, li_3440, li_4096, li_9999, li_10000, li_20000, li_20033, li_20038, li_20124, li_32767, li_65535, li_1103515245, li_12345, li_m, sx_grd, sx_clamp, nI_add, sx_sub, pk_mul, sx_le, sx_lt, sx_eq, sx_eqm, sx_meq, sx_lem, sx_mle, sx_ltm, sx_mlt, sx_addm, sx_shl, sx_bit1, sx_bit0, fa_or, uA_s, uA_n, sA_s, sA_n, sx_uA, sx_uAn, sx_sAs, pk_us, pk_un, if_true, if_false, if_pos, if_neg, ob_some, Nat.add_zero, Nat.add_sub_cancel, eq_self, ne_eq, not_true, not_false_iff, false_or, true_or, or_false, or_true, false_and, true_and, and_false, and_true]
        rcases Nat.lt_or_ge h i with d | d
        · have : nx U h < nx U i := ct_lt d ho
          rw [pk_un (by omega), pk_un (by omega)]
          exact b2 h d ho
        · have : h = i := by omega
          subst this
          rw [pk_us, pk_us]
          exact ⟨rfl, rfl⟩
      · simp (disch := omega) only [bnd_nr, li_0, li_1, li_2, li_3, li_4, li_5, li_6, li_7, li_8, li_9, li_10, li_11, li_12, li_13, li_14, li_15, li_16, li_17, li_18, li_19, li_20, li_21, li_22, li_23, li_24, li_25, li_26, li_27, li_28, li_29, li_30, li_31, li_32, li_33, li_34, li_35, li_36, li_37, li_38, li_39, li_40, li_41, li_42, li_43, li_44, li_45, li_46, li_47, li_48, li_49, li_50, li_51, li_52, li_53, li_54, li_55, li_56, li_57, li_58, li_59, li_60, li_61, li_62, li_63, li_64, li_74, li_86, li_87, li_88, li_96, li_97, li_98, li_99, li_100, li_101, li_102, li_103, li_104, li_105, li_107, li_108, li_109, li_110, li_111, li_112, li_114, li_115, li_116, li_117, li_118, li_121, li_122, li_124, li_136, li_148, li_160, li_680, li_200, li_201, li_255, li_700, li_950, li_1000, li_1400, li_3440, li_4096, li_9999, li_10000, li_20000, li_20033, li_20038, li_20124, li_32767, li_65535, li_1103515245, li_12345, li_m, sx_grd, sx_clamp, nI_add, sx_sub, pk_mul, sx_le, sx_lt, sx_eq, sx_eqm, sx_meq, sx_lem, sx_mle, sx_ltm, sx_mlt, sx_addm, sx_shl, sx_bit1, sx_bit0, fa_or, uA_s, uA_n, sA_s, sA_n, sx_uA, sx_uAn, sx_sAs, pk_us, pk_un, if_true, if_false, if_pos, if_neg, ob_some, Nat.add_zero, Nat.add_sub_cancel, eq_self, ne_eq, not_true, not_false_iff, false_or, true_or, or_false, or_true, false_and, true_and, and_false, and_true]
        exact b3 h (by omega) h3
