def mx (f : Nat → Nat) : Nat → Nat | 0 => 0 | n + 1 => if mx f n < f n then f n else mx f n
theorem mx_le {f : Nat → Nat} {v : Nat} (hv : 1 ≤ v) : ∀ {n : Nat}, v ≤ mx f n ↔ ∃ k, k < n ∧ v ≤ f k
  | 0 => ⟨fun h => absurd h (by simp [mx]; omega), fun ⟨k, h, _⟩ => absurd h (Nat.not_lt_zero _)⟩
  | n + 1 => by
    have ih := mx_le (f := f) hv (n := n)
    rw [mx]
    constructor
    · intro h
      split at h
      · exact ⟨n, by omega, h⟩
      · obtain ⟨k, h1, h2⟩ := ih.mp h
        exact ⟨k, by omega, h2⟩
    · intro ⟨k, h1, h2⟩
      by_cases c : k = n
      · subst c; split <;> omega
      · have := ih.mpr ⟨k, by omega, h2⟩
        split <;> omega
theorem mx_bd {f : Nat → Nat} {c : Nat} : ∀ {n : Nat}, (∀ k, k < n → f k ≤ c) → mx f n ≤ c
  | 0, _ => Nat.zero_le _
  | n + 1, h => by
    have ih := mx_bd (f := f) (c := c) (n := n) (fun k hk => h k (by omega))
    have := h n (by omega)
    rw [mx]; split <;> omega
theorem Cn_pos {V : VT} {h v : Nat} : 0 < Cn V h v ↔ ∃ k, k < h ∧ v ≤ sz V k := by
  unfold Cn
  rw [fb_ct_pos]
  simp only [decide_eq_true_eq]
theorem SS_0 {V : VT} {s : Nat → Nat} (ss : SS s (Cn V (vh V))) : s 0 = mx (sz V) (vh V) := by
  have k : ∀ v, 1 ≤ v → (v ≤ s 0 ↔ v ≤ mx (sz V) (vh V)) := fun v hv => by rw [ss 0 v (by omega) hv, mx_le hv, Cn_pos]
  have a := k (s 0)
  have b := k (mx (sz V) (vh V))
  omega
def QS (M r : MS) : Prop := r.1 = M.1 ∧ r.2.1 = M.2.1 ∧ ∀ j, j ≠ 15 → r.2.2 j = M.2.2 j
theorem m_greatest {M : MS} {b : Nat} {V : VT} (v : VM M b V) (w : WFV V) (hb : b ≤ 86) : RT (f_X12_greatest M (nI b)) (fun q => q.1 = nI (mx (sz V) (vh V)) ∧ QS M q.2) := by
  refine RT.cps (fun Q hQ => ?_)
  unfold f_X12_greatest
  refine RT.bind (m_laysSizes v w hb) (fun r ⟨r1, r2, r3, s, s1, s2⟩ => ?_)
  simp (disch := omega) only [bnd_nr, li_0, li_1, li_2, li_3, li_4, li_5, li_6, li_7, li_8, li_9, li_10, li_11, li_12, li_13, li_14, li_15, li_16, li_17, li_18, li_19, li_20, li_21, li_22, li_23, li_24, li_25, li_26, li_27, li_28, li_29, li_30, li_31, li_32, li_33, li_34, li_35, li_36, li_37, li_38, li_39, li_40, li_41, li_42, li_43, li_44, li_45, li_46, li_47, li_48, li_49, li_50, li_51, li_52, li_53, li_54, li_55, li_56, li_57, li_58, li_59, li_60, li_61, li_62, li_63, li_64, li_74, li_86, li_87, li_88, li_96, li_97, li_98, li_99, li_100, li_101, li_102, li_103, li_104, li_105, li_107, li_108, li_109, li_110, li_111, li_112, li_114, li_115, li_116, li_117, li_118, li_121, li_122, li_124, li_136, li_148, li_160, li_680, li_200, li_201, li_255, li_700, li_950, li_1000, li_1400, li_3440, li_4096, li_9999, li_10000, li_20000, li_20033, li_20038, li_20124, li_32767, li_65535, li_1103515245, li_12345, li_m, sx_grd, sx_clamp, nI_add, sx_sub, pk_mul, sx_le, sx_lt, sx_eq, sx_eqm, sx_meq, sx_lem, sx_mle, sx_ltm, sx_mlt, sx_addm, sx_shl, sx_bit1, sx_bit0, fa_or, uA_s, uA_n, sA_s, sA_n, sx_uA, sx_uAn, sx_sAs, pk_us, pk_un, if_true, if_false, if_pos, if_neg, ob_some, Nat.add_zero, Nat.add_sub_cancel, eq_self, ne_eq, not_true, not_false_iff, false_or, true_or, or_false, or_true, false_and, true_and, and_false, and_true, (s1 0 (by omega)).1]
  exact RT.done hQ ⟨by rw [SS_0 s2], r1, r2, r3⟩
theorem c_greatest {v : Ob} {V : VT} (c : VC v V) (w : WFV V) : f_X10_greatest v = some (nI (mx (sz V) (vh V))) := by
  have b0 := w.1.1
  refine RT.eq ?_
  refine RT.cps (fun Q hQ => ?_)
  unfold f_X10_greatest
  refine RT.loop0 (fun n i (l1 : Int32) => f_X10_greatest_L4 v n l1 (nI i)) (vh V) (fun i l1 => l1 = nI (mx (sz V) i)) _ _ (by omega) rfl ?_ ?_
  · intro n l1 e
    show RT (f_X10_greatest_L4 v (n + 1) l1 (nI (vh V))) _
    unfold f_X10_greatest_L4
    simp (disch := omega) only [bnd_nr, li_0, li_1, li_2, li_3, li_4, li_5, li_6, li_7, li_8, li_9, li_10, li_11, li_12, li_13, li_14, li_15, li_16, li_17, li_18, li_19, li_20, li_21, li_22, li_23, li_24, li_25, li_26, li_27, li_28, li_29, li_30, li_31, li_32, li_33, li_34, li_35, li_36, li_37, li_38, li_39, li_40, li_41, li_42, li_43, li_44, li_45, li_46, li_47, li_48, li_49, li_50, li_51, li_52, li_53, li_54, li_55, li_56, li_57, li_58, li_59, li_60, li_61, li_62, li_63, li_64, li_74, li_86, li_87, li_88, li_96, li_97, li_98, li_99, li_100, li_101, li_102, li_103, li_104, li_105, li_107, li_108, li_109, li_110, li_111, li_112, li_114, li_115, li_116, li_117, li_118, li_121, li_122, li_124, li_136, li_148, li_160, li_680, li_200, li_201, li_255, li_700, li_950, li_1000, li_1400, li_3440, li_4096, li_9999, li_10000, li_20000, li_20033, li_20038, li_20124, li_32767, li_65535, li_1103515245, li_12345, li_m, sx_grd, sx_clamp, nI_add, sx_sub, pk_mul, sx_le, sx_lt, sx_eq, sx_eqm, sx_meq, sx_lem, sx_mle, sx_ltm, sx_mlt, sx_addm, sx_shl, sx_bit1, sx_bit0, fa_or, uA_s, uA_n, sA_s, sA_n, sx_uA, sx_uAn, sx_sAs, pk_us, pk_un, if_true, if_false, if_pos, if_neg, ob_some, Nat.add_zero, Nat.add_sub_cancel, eq_self, ne_eq, not_true, not_false_iff, false_or, true_or, or_false, or_true, false_and, true_and, and_false, and_true, c.1.2.1]
    exact RT.done hQ e
  · intro n i l1 hi e hk
    show RT (f_X10_greatest_L4 v (n + 1) l1 (nI i)) _
    have s0 := sz_le V i
    have m0 := mx_bd (f := sz V) (c := vn V) (n := i) (fun k _ => sz_le V k)
    unfold f_X10_greatest_L4
    simp (disch := omega) only [bnd_nr, li_0, li_1, li_2, li_3, li_4, li_5, li_6, li_7, li_8, li_9, li_10, li_11, li_12, li_13, li_14, li_15, li_16, li_17, li_18, li_19, li_20, li_21, li_22, li_23, li_24, li_25, li_26, li_27, li_28, li_29, li_30, li_31, li_32, li_33, li_34, li_35, li_36, li_37, li_38, li_39, li_40, li_41, li_42, li_43, li_44, li_45, li_46, li_47, li_48, li_49, li_50, li_51, li_52, li_53, li_54, li_55, li_56, li_57, li_58, li_59, li_60, li_61, li_62, li_63, li_64, li_74, li_86, li_87, li_88, li_96, li_97, li_98, li_99, li_100, li_101, li_102, li_103, li_104, li_105, li_107, li_108, li_109, li_110, li_111, li_112, li_114, li_115, li_116, li_117, li_118, li_121, li_122, li_124, li_136, li_148, li_160, li_680, li_200, li_201, li_255, li_700, li_950, li_1000, li_1400, li_3440, li_4096, li_9999, li_10000, li_20000, li_20033, li_20038, li_20124, li_32767, li_65535, li_1103515245, li_12345, li_m, sx_grd, sx_clamp, nI_add, sx_sub, pk_mul, sx_le, sx_lt, sx_eq, sx_eqm, sx_meq, sx_lem, sx_mle, sx_ltm, sx_mlt, sx_addm, sx_shl, sx_bit1, sx_bit0, fa_or, uA_s, uA_n, sA_s, sA_n, sx_uA, sx_uAn, sx_sAs, pk_us, pk_un, if_true, if_false, if_pos, if_neg, ob_some, Nat.add_zero, Nat.add_sub_cancel, eq_self, ne_eq, not_true, not_false_iff, false_or, true_or, or_false, or_true, false_and, true_and, and_false, and_true, c.1.2.1, c.z i hi, e]
    refine hk _ ?_
    rw [mx]; split <;> rfl
/-- the i-th greatest -/
theorem Cn_eq {V : VT} {h v : Nat} : Cn V h v = Cn V h (v + 1) + fb_ct (fun k => decide (sz V k = v)) h := by
  induction h with
  | zero => rfl
  | succ h ih =>
    rw [Cn_succ, Cn_succ, fb_ct_succ, ih]
    simp only [decide_eq_true_eq]
    by_cases c : sz V h = v
    · rw [if_pos (by omega), if_neg (by omega), if_pos c]; omega
    · rw [if_neg c]
      by_cases d : v ≤ sz V h
      · rw [if_pos d, if_pos (by omega)]; omega
      · rw [if_neg d, if_neg (by omega)]; omega
def GB (V : VT) (i : Nat) (r : Int32) : Prop := (r = mO ∧ Cn V (vh V) 1 ≤ i) ∨ ∃ v, 1 ≤ v ∧ v ≤ 12 ∧ r = nI v ∧ Cn V (vh V) (v + 1) ≤ i ∧ i < Cn V (vh V) v
theorem c_greatestButFor {v : Ob} {V : VT} (c : VC v V) (w : WFV V) {i : Nat} (hi : i < 12) : RT (f_X10_greatestButFor v (nI i)) (GB V i) := by
  refine RT.cps (fun Q hQ => ?_)
  have b0 := w.1.1
  unfold f_X10_greatestButFor
  simp (disch := omega) only [bnd_nr, li_0, li_1, li_2, li_3, li_4, li_5, li_6, li_7, li_8, li_9, li_10, li_11, li_12, li_13, li_14, li_15, li_16, li_17, li_18, li_19, li_20, li_21, li_22, li_23, li_24, li_25, li_26, li_27, li_28, li_29, li_30, li_31, li_32, li_33, li_34, li_35, li_36, li_37, li_38, li_39, li_40, li_41, li_42, li_43, li_44, li_45, li_46, li_47, li_48, li_49, li_50, li_51, li_52, li_53, li_54, li_55, li_56, li_57, li_58, li_59, li_60, li_61, li_62, li_63, li_64, li_74, li_86, li_87, li_88, li_96, li_97, li_98, li_99, li_100, li_101, li_102, li_103, li_104, li_105, li_107, li_108, li_109, li_110, li_111, li_112, li_114, li_115, li_116, li_117, li_118, li_121, li_122, li_124, li_136, li_148, li_160, li_680, li_200, li_201, li_255, li_700, li_950, li_1000, li_1400, li_3440, li_4096, li_9999, li_10000, li_20000, li_20033, li_20038, li_20124, li_32767, li_65535, li_1103515245, li_12345, li_m, sx_grd, sx_clamp, nI_add, sx_sub, pk_mul, sx_le, sx_lt, sx_eq, sx_eqm, sx_meq, sx_lem, sx_mle, sx_ltm, sx_mlt, sx_addm, sx_shl, sx_bit1, sx_bit0, fa_or, uA_s, uA_n, sA_s, sA_n, sx_uA, sx_uAn, sx_sAs, pk_us, pk_un, if_true, if_false, if_pos, if_neg, ob_some, Nat.add_zero, Nat.add_sub_cancel, eq_self, ne_eq, not_true, not_false_iff, false_or, true_or, or_false, or_true, false_and, true_and, and_false, and_true, c.1.1]
  refine RT.down (fun n s (l2 : Int32) => f_X10_greatestButFor_L7 v n l2 (nI s)) (fun s l2 => s ≤ vn V ∧ Cn V (vh V) (s + 1) ≤ i ∧ l2 = nI (i - Cn V (vh V) (s + 1))) _ ?_ ?_ FUEL (vn V) _ (by unfold FUEL; omega) ⟨Nat.le_refl _, ?_, ?_⟩
  · intro n s l2 ⟨h1, h2, h3⟩ hk
    show RT (f_X10_greatestButFor_L7 v (n + 1) l2 (nI (s + 1))) _
    unfold f_X10_greatestButFor_L7
    simp (disch := omega) only [bnd_nr, li_0, li_1, li_2, li_3, li_4, li_5, li_6, li_7, li_8, li_9, li_10, li_11, li_12, li_13, li_14, li_15, li_16, li_17, li_18, li_19, li_20, li_21, li_22, li_23, li_24, li_25, li_26, li_27, li_28, li_29, li_30, li_31, li_32, li_33, li_34, li_35, li_36, li_37, li_38, li_39, li_40, li_41, li_42, li_43, li_44, li_45, li_46, li_47, li_48, li_49, li_50, li_51, li_52, li_53, li_54, li_55, li_56, li_57, li_58, li_59, li_60, li_61, li_62, li_63, li_64, li_74, li_86, li_87, li_88, li_96, li_97, li_98, li_99, li_100, li_101, li_102, li_103, li_104, li_105, li_107, li_108, li_109, li_110, li_111, li_112, li_114, li_115, li_116, li_117, li_118, li_121, li_122, li_124, li_136, li_148, li_160, li_680, li_200, li_201, li_255, li_700, li_950, li_1000, li_1400, li_3440, li_4096, li_9999, li_10000, li_20000, li_20033, li_20038, li_20124, li_32767, li_65535, li_1103515245, li_12345, li_m, sx_grd, sx_clamp, nI_add, sx_sub, pk_mul, sx_le, sx_lt, sx_eq, sx_eqm, sx_meq, sx_lem, sx_mle, sx_ltm, sx_mlt, sx_addm, sx_shl, sx_bit1, sx_bit0, fa_or, uA_s, uA_n, sA_s, sA_n, sx_uA, sx_uAn, sx_sAs, pk_us, pk_un, if_true, if_false, if_pos, if_neg, ob_some, Nat.add_zero, Nat.add_sub_cancel, eq_self, ne_eq, not_true, not_false_iff, false_or, true_or, or_false, or_true, false_and, true_and, and_false, and_true, h3]
    refine RT.loop0 (fun m h (l2 : Int32) => f_X10_greatestButFor_L14 (f_X10_greatestButFor_L7 v n) (nI (s + 1)) v m l2 (nI h)) (vh V) (fun h l2 => Cn V (vh V) (s + 1 + 1) + fb_ct (fun k => decide (sz V k = s + 1)) h ≤ i ∧ l2 = nI (i - (Cn V (vh V) (s + 1 + 1) + fb_ct (fun k => decide (sz V k = s + 1)) h))) _ _ (by omega) ⟨h2, rfl⟩ ?_ ?_
    · intro m l2 ⟨k1, k2⟩
      show RT (f_X10_greatestButFor_L14 (f_X10_greatestButFor_L7 v n) (nI (s + 1)) v (m + 1) l2 (nI (vh V))) _
      unfold f_X10_greatestButFor_L14
      simp (disch := omega) only [bnd_nr, li_0, li_1, li_2, li_3, li_4, li_5, li_6, li_7, li_8, li_9, li_10, li_11, li_12, li_13, li_14, li_15, li_16, li_17, li_18, li_19, li_20, li_21, li_22, li_23, li_24, li_25, li_26, li_27, li_28, li_29, li_30, li_31, li_32, li_33, li_34, li_35, li_36, li_37, li_38, li_39, li_40, li_41, li_42, li_43, li_44, li_45, li_46, li_47, li_48, li_49, li_50, li_51, li_52, li_53, li_54, li_55, li_56, li_57, li_58, li_59, li_60, li_61, li_62, li_63, li_64, li_74, li_86, li_87, li_88, li_96, li_97, li_98, li_99, li_100, li_101, li_102, li_103, li_104, li_105, li_107, li_108, li_109, li_110, li_111, li_112, li_114, li_115, li_116, li_117, li_118, li_121, li_122, li_124, li_136, li_148, li_160, li_680, li_200, li_201, li_255, li_700, li_950, li_1000, li_1400, li_3440, li_4096, li_9999, li_10000, li_20000, li_20033, li_20038, li_20124, li_32767, li_65535, li_1103515245, li_12345, li_m, sx_grd, sx_clamp, nI_add, sx_sub, pk_mul, sx_le, sx_lt, sx_eq, sx_eqm, sx_meq, sx_lem, sx_mle, sx_ltm, sx_mlt, sx_addm, sx_shl, sx_bit1, sx_bit0, fa_or, uA_s, uA_n, sA_s, sA_n, sx_uA, sx_uAn, sx_sAs, pk_us, pk_un, if_true, if_false, if_pos, if_neg, ob_some, Nat.add_zero, Nat.add_sub_cancel, eq_self, ne_eq, not_true, not_false_iff, false_or, true_or, or_false, or_true, false_and, true_and, and_false, and_true, c.1.2.1]
      rw [← Cn_eq] at k1 k2
      exact hk _ ⟨by omega, k1, k2⟩
    · intro m h l2 hh ⟨k1, k2⟩ hk2
      show RT (f_X10_greatestButFor_L14 (f_X10_greatestButFor_L7 v n) (nI (s + 1)) v (m + 1) l2 (nI h)) _
      have s0 := sz_le V h
      unfold f_X10_greatestButFor_L14
      simp (disch := omega) only [bnd_nr, li_0, li_1, li_2, li_3, li_4, li_5, li_6, li_7, li_8, li_9, li_10, li_11, li_12, li_13, li_14, li_15, li_16, li_17, li_18, li_19, li_20, li_21, li_22, li_23, li_24, li_25, li_26, li_27, li_28, li_29, li_30, li_31, li_32, li_33, li_34, li_35, li_36, li_37, li_38, li_39, li_40, li_41, li_42, li_43, li_44, li_45, li_46, li_47, li_48, li_49, li_50, li_51, li_52, li_53, li_54, li_55, li_56, li_57, li_58, li_59, li_60, li_61, li_62, li_63, li_64, li_74, li_86, li_87, li_88, li_96, li_97, li_98, li_99, li_100, li_101, li_102, li_103, li_104, li_105, li_107, li_108, li_109, li_110, li_111, li_112, li_114, li_115, li_116, li_117, li_118, li_121, li_122, li_124, li_136, li_148, li_160, li_680, li_200, li_201, li_255, li_700, li_950, li_1000, li_1400, li_3440, li_4096, li_9999, li_10000, li_20000, li_20033, li_20038, li_20124, li_32767, li_65535, li_1103515245, li_12345, li_m, sx_grd, sx_clamp, nI_add, sx_sub, pk_mul, sx_le, sx_lt, sx_eq, sx_eqm, sx_meq, sx_lem, sx_mle, sx_ltm, sx_mlt, sx_addm, sx_shl, sx_bit1, sx_bit0, fa_or, uA_s, uA_n, sA_s, sA_n, sx_uA, sx_uAn, sx_sAs, pk_us, pk_un, if_true, if_false, if_pos, if_neg, ob_some, Nat.add_zero, Nat.add_sub_cancel, eq_self, ne_eq, not_true, not_false_iff, false_or, true_or, or_false, or_true, false_and, true_and, and_false, and_true, c.1.2.1, c.z h hh, k2]
      refine RT.ite (fun d => RT.ite (fun d2 => ?_) (fun d2 => ?_)) (fun d => ?_)
      · refine RT.done hQ (Or.inr ⟨s + 1, by omega, by omega, rfl, h2, ?_⟩)
        rw [Cn_eq]
        have := ct_lt (P := fun k => decide (sz V k = s + 1)) hh (decide_eq_true d)
        omega
      · refine hk2 _ ⟨?_, ?_⟩
        · rw [ct_yes (P := fun k => decide (sz V k = s + 1)) (decide_eq_true d)]; omega
        · rw [ct_yes (P := fun k => decide (sz V k = s + 1)) (decide_eq_true d)]; congr 1
      · refine hk2 _ ⟨?_, ?_⟩
        · rw [ct_no (P := fun k => decide (sz V k = s + 1)) (decide_eq_false d)]; exact k1
        · rw [ct_no (P := fun k => decide (sz V k = s + 1)) (decide_eq_false d)]
  · intro n l2 ⟨h1, h2, h3⟩
    show RT (f_X10_greatestButFor_L7 v (n + 1) l2 (nI 0)) _
    unfold f_X10_greatestButFor_L7
    simp (disch := omega) only [bnd_nr, li_0, li_1, li_2, li_3, li_4, li_5, li_6, li_7, li_8, li_9, li_10, li_11, li_12, li_13, li_14, li_15, li_16, li_17, li_18, li_19, li_20, li_21, li_22, li_23, li_24, li_25, li_26, li_27, li_28, li_29, li_30, li_31, li_32, li_33, li_34, li_35, li_36, li_37, li_38, li_39, li_40, li_41, li_42, li_43, li_44, li_45, li_46, li_47, li_48, li_49, li_50, li_51, li_52, li_53, li_54, li_55, li_56, li_57, li_58, li_59, li_60, li_61, li_62, li_63, li_64, li_74, li_86, li_87, li_88, li_96, li_97, li_98, li_99, li_100, li_101, li_102, li_103, li_104, li_105, li_107, li_108, li_109, li_110, li_111, li_112, li_114, li_115, li_116, li_117, li_118, li_121, li_122, li_124, li_136, li_148, li_160, li_680, li_200, li_201, li_255, li_700, li_950, li_1000, li_1400, li_3440, li_4096, li_9999, li_10000, li_20000, li_20033, li_20038, li_20124, li_32767, li_65535, li_1103515245, li_12345, li_m, sx_grd, sx_clamp, nI_add, sx_sub, pk_mul, sx_le, sx_lt, sx_eq, sx_eqm, sx_meq, sx_lem, sx_mle, sx_ltm, sx_mlt, sx_addm, sx_shl, sx_bit1, sx_bit0, fa_or, uA_s, uA_n, sA_s, sA_n, sx_uA, sx_uAn, sx_sAs, pk_us, pk_un, if_true, if_false, if_pos, if_neg, ob_some, Nat.add_zero, Nat.add_sub_cancel, eq_self, ne_eq, not_true, not_false_iff, false_or, true_or, or_false, or_true, false_and, true_and, and_false, and_true]
    exact RT.done hQ (Or.inl ⟨rfl, h2⟩)
  · have z : Cn V (vh V) (vn V + 1) = 0 := fb_ct_zero.mpr (fun k _ => by have := sz_le V k; simp; omega)
    omega
  · have z : Cn V (vh V) (vn V + 1) = 0 := fb_ct_zero.mpr (fun k _ => by have := sz_le V k; simp; omega)
    rw [z]; rfl
theorem SS_GB {V : VT} {s : Nat → Nat} (ss : SS s (Cn V (vh V))) {i : Nat} (hi : i < 12) {r : Int32} (g : GB V i r) : r = if s i = 0 then mO else nI (s i) := by
  rcases g with ⟨g1, g2⟩ | ⟨v, v1, v2, v3, v4, v5⟩
  · have := ss i 1 hi (by omega)
    rw [g1, if_pos (by omega)]
  · have a := ss i v hi v1
    have b := ss i (v + 1) hi (by omega)
    rw [v3, if_neg (by omega)]
    congr 1; omega
/-! stairs -/
def cq (V : VT) (h v : Nat) : Nat := fb_ct (fun k => decide (sz V k = v)) h
theorem Cn_cq {V : VT} {h v : Nat} : Cn V h v = Cn V h (v + 1) + cq V h v := Cn_eq
theorem Cn_big {V : VT} {h v : Nat} (hv : vn V < v) : Cn V h v = 0 := fb_ct_zero.mpr (fun k _ => by have := sz_le V k; simp; omega)
theorem Cn_1 {V : VT} (w : WFV V) : Cn V (vh V) 1 = vh V := fb_ct_all.mpr (fun k hk => decide_eq_true (w.2 k hk))
/-- each size from 1 to the number of houses is there, and no other -/
def STR (V : VT) : Prop := ∀ v, 1 ≤ v → (v ≤ vh V ↔ ∃ h, h < vh V ∧ sz V h = v)
theorem STR_C {V : VT} (w : WFV V) : STR V ↔ ∀ v, 1 ≤ v → Cn V (vh V) v = vh V + 1 - v := by
  constructor
  · intro st
    have one : ∀ v, v < vh V → cq V (vh V) (v + 1) = 1 := by
      have d := dbl (fun h => sz V h - 1) (fun _ => true) (vh V) (vh V) (fun h hh _ => by
        have := w.2 h hh
        have := (st (sz V h) this).mpr ⟨h, hh, rfl⟩
        show sz V h - 1 < vh V
        omega)
      rw [ct_true] at d
      have e : fb_sm (fun v => cq V (vh V) (v + 1)) (vh V) = vh V := by
        refine Eq.trans (fb_sm_cong (fun v _ => fb_ct_cong (fun h hh => ?_))) d
        have := w.2 h hh
        rw [Bool.and_true]
        exact decide_eq_decide.mpr (by omega)
      have ge : ∀ v, v < vh V → 1 ≤ cq V (vh V) (v + 1) := fun v hv => by
        obtain ⟨h, h1, h2⟩ := (st (v + 1) (by omega)).mp (by omega)
        exact fb_ct_pos.mpr ⟨h, h1, decide_eq_true h2⟩
      intro v hv
      have g1 := ge v hv
      by_cases c : cq V (vh V) (v + 1) = 1
      · exact c
      · exfalso
        have l := fb_sm_le (f := fun k => if k = v then 2 else 1) (g := fun k => cq V (vh V) (k + 1)) (n := vh V) (fun k hk => by
          show (if k = v then 2 else 1) ≤ cq V (vh V) (k + 1)
          by_cases q : k = v
          · rw [if_pos q, q]; omega
          · rw [if_neg q]; exact ge k hk)
        have u := fb_sm_upd (fun _ => 1) 2 (i := v) (n := vh V) hv
        rw [fb_sm_const] at u
        omega
    have zero : ∀ v, vh V < v → Cn V (vh V) v = 0 := fun v hv => fb_ct_zero.mpr (fun k hk => by
      have := w.2 k hk
      have := (st (sz V k) this).mpr ⟨k, hk, rfl⟩
      simp; omega)
    have down : ∀ d v, v + d = vh V → Cn V (vh V) (v + 1) = d := by
      intro d
      induction d with
      | zero => intro v hv; exact zero _ (by omega)
      | succ d ih =>
        intro v hv
        rw [Cn_cq, ih (v + 1) (by omega), one v (by omega)]
    intro v hv
    by_cases c : v ≤ vh V
    · have := down (vh V + 1 - v) (v - 1) (by omega)
      rw [show v - 1 + 1 = v by omega] at this
      exact this
    · rw [zero v (by omega)]; omega
  · intro c v hv
    have a := c v hv
    have b := c (v + 1) (by omega)
    rw [Cn_cq] at a
    constructor
    · intro h
      obtain ⟨k, h1, h2⟩ := fb_ct_pos.mp (show 0 < cq V (vh V) v by omega)
      exact ⟨k, h1, of_decide_eq_true h2⟩
    · intro ⟨k, h1, h2⟩
      have : 0 < cq V (vh V) v := fb_ct_pos.mpr ⟨k, h1, decide_eq_true h2⟩
      omega
theorem SS_str {V : VT} {s : Nat → Nat} (w : WFV V) (ss : SS s (Cn V (vh V))) : (∀ k, k < vh V → s k = vh V - k) ↔ STR V := by
  have hn := w.hn
  have b0 := w.1.1
  rw [STR_C w]
  constructor
  · intro h v hv
    have cl := Cn_le V (vh V) v
    have all : ∀ k, k < vh V → (k < Cn V (vh V) v ↔ v + k ≤ vh V) := fun k hk => by
      rw [← ss k v (by omega) hv, h k hk]; omega
    have a := all (Cn V (vh V) v)
    have b := all (vh V + 1 - v)
    have d := all (vh V - v)
    omega
  · intro h k hk
    have all : ∀ v, 1 ≤ v → (v ≤ s k ↔ v + k ≤ vh V) := fun v hv => by
      rw [ss k v (by omega) hv, h v hv]; omega
    have a := all (s k)
    have b := all (vh V - k)
    omega
theorem m_stairs {M : MS} {b : Nat} {V : VT} (v : VM M b V) (w : WFV V) (hb : b ≤ 86) : RT (f_X12_stairs M (nI b)) (fun q => ((q.1 = 1 ∧ STR V) ∨ (q.1 = 0 ∧ ¬ STR V)) ∧ QS M q.2) := by
  refine RT.cps (fun Q hQ => ?_)
  have hn := w.hn
  have b0 := w.1.1
  unfold f_X12_stairs
  refine RT.bind (m_laysSizes v w hb) (fun r ⟨r1, r2, r3, s, s1, s2⟩ => ?_)
  have vz : VM r b V := VM_of (by rw [r1]) (r3 10 (by omega)) v
  have e0 : r.2.2 10 (b + 1) = nI (vh V) := vz.2.1.2
  refine RT.loop0 (fun n k (l2 : Int32) => f_X12_stairs_L9 (nI b) r n l2 (nI k)) (vh V) (fun k l2 => (l2 = 1 ∧ ∀ j, j < k → s j = vh V - j) ∨ (l2 = 0 ∧ ∃ j, j < k ∧ s j ≠ vh V - j)) _ _ (by omega) (Or.inl ⟨rfl, fun j hj => absurd hj (Nat.not_lt_zero _)⟩) ?_ ?_
  · intro n l2 h
    show RT (f_X12_stairs_L9 (nI b) r (n + 1) l2 (nI (vh V))) _
    unfold f_X12_stairs_L9
    rcases h with ⟨h1, h2⟩ | ⟨h1, j, h2, h3⟩
    · subst h1
      simp (disch := omega) only [bnd_nr, li_0, li_1, li_2, li_3, li_4, li_5, li_6, li_7, li_8, li_9, li_10, li_11, li_12, li_13, li_14, li_15, li_16, li_17, li_18, li_19, li_20, li_21, li_22, li_23, li_24, li_25, li_26, li_27, li_28, li_29, li_30, li_31, li_32, li_33, li_34, li_35, li_36, li_37, li_38, li_39, li_40, li_41, li_42, li_43, li_44, li_45, li_46, li_47, li_48, li_49, li_50, li_51, li_52, li_53, li_54, li_55, li_56, li_57, li_58, li_59, li_60, li_61, li_62, li_63, li_64, li_74, li_86, li_87, li_88, li_96, li_97, li_98, li_99, li_100, li_101, li_102, li_103, li_104, li_105, li_107, li_108, li_109, li_110, li_111, li_112, li_114, li_115, li_116, li_117, li_118, li_121, li_122, li_124, li_136, li_148, li_160, li_680, li_200, li_201, li_255, li_700, li_950, li_1000, li_1400, li_3440, li_4096, li_9999, li_10000, li_20000, li_20033, li_20038, li_20124, li_32767, li_65535, li_1103515245, li_12345, li_m, sx_grd, sx_clamp, nI_add, sx_sub, pk_mul, sx_le, sx_lt, sx_eq, sx_eqm, sx_meq, sx_lem, sx_mle, sx_ltm, sx_mlt, sx_addm, sx_shl, sx_bit1, sx_bit0, fa_or, uA_s, uA_n, sA_s, sA_n, sx_uA, sx_uAn, sx_sAs, pk_us, pk_un, if_true, if_false, if_pos, if_neg, ob_some, Nat.add_zero, Nat.add_sub_cancel, eq_self, ne_eq, not_true, not_false_iff, false_or, true_or, or_false, or_true, false_and, true_and, and_false, and_true, e0]
      exact RT.done hQ ⟨Or.inl ⟨rfl, (SS_str w s2).mp h2⟩, r1, r2, r3⟩
    · subst h1
      simp (disch := omega) only [bnd_nr, li_0, li_1, li_2, li_3, li_4, li_5, li_6, li_7, li_8, li_9, li_10, li_11, li_12, li_13, li_14, li_15, li_16, li_17, li_18, li_19, li_20, li_21, li_22, li_23, li_24, li_25, li_26, li_27, li_28, li_29, li_30, li_31, li_32, li_33, li_34, li_35, li_36, li_37, li_38, li_39, li_40, li_41, li_42, li_43, li_44, li_45, li_46, li_47, li_48, li_49, li_50, li_51, li_52, li_53, li_54, li_55, li_56, li_57, li_58, li_59, li_60, li_61, li_62, li_63, li_64, li_74, li_86, li_87, li_88, li_96, li_97, li_98, li_99, li_100, li_101, li_102, li_103, li_104, li_105, li_107, li_108, li_109, li_110, li_111, li_112, li_114, li_115, li_116, li_117, li_118, li_121, li_122, li_124, li_136, li_148, li_160, li_680, li_200, li_201, li_255, li_700, li_950, li_1000, li_1400, li_3440, li_4096, li_9999, li_10000, li_20000, li_20033, li_20038, li_20124, li_32767, li_65535, li_1103515245, li_12345, li_m, sx_grd, sx_clamp, nI_add, sx_sub, pk_mul, sx_le, sx_lt, sx_eq, sx_eqm, sx_meq, sx_lem, sx_mle, sx_ltm, sx_mlt, sx_addm, sx_shl, sx_bit1, sx_bit0, fa_or, uA_s, uA_n, sA_s, sA_n, sx_uA, sx_uAn, sx_sAs, pk_us, pk_un, if_true, if_false, if_pos, if_neg, ob_some, Nat.add_zero, Nat.add_sub_cancel, eq_self, ne_eq, not_true, not_false_iff, false_or, true_or, or_false, or_true, false_and, true_and, and_false, and_true, e0]
      exact RT.done hQ ⟨Or.inr ⟨rfl, fun z => h3 ((SS_str w s2).mpr z j h2)⟩, r1, r2, r3⟩
  · intro n k l2 hk9 h hk
    show RT (f_X12_stairs_L9 (nI b) r (n + 1) l2 (nI k)) _
    have sk := s1 k (by omega)
    unfold f_X12_stairs_L9
    rcases h with ⟨h1, h2⟩ | ⟨h1, j, h2, h3⟩
    · subst h1
      simp (disch := omega) only [bnd_nr, li_0, li_1, li_2, li_3, li_4, li_5, li_6, li_7, li_8, li_9, li_10, li_11, li_12, li_13, li_14, li_15, li_16, li_17, li_18, li_19, li_20, li_21, li_22, li_23, li_24, li_25, li_26, li_27, li_28, li_29, li_30, li_31, li_32, li_33, li_34, li_35, li_36, li_37, li_38, li_39, li_40, li_41, li_42, li_43, li_44, li_45, li_46, li_47, li_48, li_49, li_50, li_51, li_52, li_53, li_54, li_55, li_56, li_57, li_58, li_59, li_60, li_61, li_62, li_63, li_64, li_74, li_86, li_87, li_88, li_96, li_97, li_98, li_99, li_100, li_101, li_102, li_103, li_104, li_105, li_107, li_108, li_109, li_110, li_111, li_112, li_114, li_115, li_116, li_117, li_118, li_121, li_122, li_124, li_136, li_148, li_160, li_680, li_200, li_201, li_255, li_700, li_950, li_1000, li_1400, li_3440, li_4096, li_9999, li_10000, li_20000, li_20033, li_20038, li_20124, li_32767, li_65535, li_1103515245, li_12345, li_m, sx_grd, sx_clamp, nI_add, sx_sub, pk_mul, sx_le, sx_lt, sx_eq, sx_eqm, sx_meq, sx_lem, sx_mle, sx_ltm, sx_mlt, sx_addm, sx_shl, sx_bit1, sx_bit0, fa_or, uA_s, uA_n, sA_s, sA_n, sx_uA, sx_uAn, sx_sAs, pk_us, pk_un, if_true, if_false, if_pos, if_neg, ob_some, Nat.add_zero, Nat.add_sub_cancel, eq_self, ne_eq, not_true, not_false_iff, false_or, true_or, or_false, or_true, false_and, true_and, and_false, and_true, e0, sk.1]
      refine RT.ite (fun d => hk _ (Or.inl ⟨rfl, fun j hj => ?_⟩)) (fun d => hk _ (Or.inr ⟨rfl, k, by omega, d⟩))
      by_cases q : j = k
      · subst q; exact d
      · exact h2 j (by omega)
    · subst h1
      simp (disch := omega) only [bnd_nr, li_0, li_1, li_2, li_3, li_4, li_5, li_6, li_7, li_8, li_9, li_10, li_11, li_12, li_13, li_14, li_15, li_16, li_17, li_18, li_19, li_20, li_21, li_22, li_23, li_24, li_25, li_26, li_27, li_28, li_29, li_30, li_31, li_32, li_33, li_34, li_35, li_36, li_37, li_38, li_39, li_40, li_41, li_42, li_43, li_44, li_45, li_46, li_47, li_48, li_49, li_50, li_51, li_52, li_53, li_54, li_55, li_56, li_57, li_58, li_59, li_60, li_61, li_62, li_63, li_64, li_74, li_86, li_87, li_88, li_96, li_97, li_98, li_99, li_100, li_101, li_102, li_103, li_104, li_105, li_107, li_108, li_109, li_110, li_111, li_112, li_114, li_115, li_116, li_117, li_118, li_121, li_122, li_124, li_136, li_148, li_160, li_680, li_200, li_201, li_255, li_700, li_950, li_1000, li_1400, li_3440, li_4096, li_9999, li_10000, li_20000, li_20033, li_20038, li_20124, li_32767, li_65535, li_1103515245, li_12345, li_m, sx_grd, sx_clamp, nI_add, sx_sub, pk_mul, sx_le, sx_lt, sx_eq, sx_eqm, sx_meq, sx_lem, sx_mle, sx_ltm, sx_mlt, sx_addm, sx_shl, sx_bit1, sx_bit0, fa_or, uA_s, uA_n, sA_s, sA_n, sx_uA, sx_uAn, sx_sAs, pk_us, pk_un, if_true, if_false, if_pos, if_neg, ob_some, Nat.add_zero, Nat.add_sub_cancel, eq_self, ne_eq, not_true, not_false_iff, false_or, true_or, or_false, or_true, false_and, true_and, and_false, and_true, e0]
      exact hk _ (Or.inr ⟨rfl, j, by omega, h3⟩)
theorem c_isStairs {v : Ob} {V : VT} (c : VC v V) (w : WFV V) : RT (f_X10_isStairs v) (fun q => (q = 1 ∧ STR V) ∨ (q = 0 ∧ ¬ STR V)) := by
  refine RT.cps (fun Q hQ => ?_)
  have hn := w.hn
  have b0 := w.1.1
  unfold f_X10_isStairs
  refine RT.loop0 (fun n i (l1 : Int32) => f_X10_isStairs_L4 v n l1 (nI i)) (vh V) (fun i l1 => ∃ m, l1 = nI m ∧ m < 2 ^ 12 ∧ ∀ k, m.testBit k = decide (∃ h, h < i ∧ sz V h = k + 1)) _ _ (by omega) ⟨0, rfl, by omega, fun k => ?_⟩ ?_ ?_
  · rw [Nat.zero_testBit]
    exact (decide_eq_false (fun ⟨h, z, _⟩ => absurd z (Nat.not_lt_zero _))).symm
  · intro n l1 ⟨m, e, ml, mb⟩
    show RT (f_X10_isStairs_L4 v (n + 1) l1 (nI (vh V))) _
    have p1 : 1 ≤ 2 ^ vh V := Nat.one_le_two_pow
    have p2 : 2 ^ vh V < 2 ^ 14 := Nat.pow_lt_pow_right (by omega) (by omega)
    have iff : m = 2 ^ vh V - 1 ↔ STR V := by
      constructor
      · intro z u hu
        have := mb (u - 1)
        rw [z, Nat.testBit_two_pow_sub_one] at this
        rw [decide_eq_decide] at this
        rw [show u - 1 + 1 = u by omega] at this
        rw [← this]; omega
      · intro st
        refine bit_ext (n := 12) ml (by have : 2 ^ vh V ≤ 2 ^ 12 := Nat.pow_le_pow_right (by omega) (by omega); omega) (fun k _ => ?_)
        rw [mb, Nat.testBit_two_pow_sub_one, decide_eq_decide]
        have := st (k + 1) (by omega)
        rw [← this]; omega
    unfold f_X10_isStairs_L4
    simp (disch := omega) only [bnd_nr, li_0, li_1, li_2, li_3, li_4, li_5, li_6, li_7, li_8, li_9, li_10, li_11, li_12, li_13, li_14, li_15, li_16, li_17, li_18, li_19, li_20, li_21, li_22, li_23, li_24, li_25, li_26, li_27, li_28, li_29, li_30, li_31, li_32, li_33, li_34, li_35, li_36, li_37, li_38, li_39, li_40, li_41, li_42, li_43, li_44, li_45, li_46, li_47, li_48, li_49, li_50, li_51, li_52, li_53, li_54, li_55, li_56, li_57, li_58, li_59, li_60, li_61, li_62, li_63, li_64, li_74, li_86, li_87, li_88, li_96, li_97, li_98, li_99, li_100, li_101, li_102, li_103, li_104, li_105, li_107, li_108, li_109, li_110, li_111, li_112, li_114, li_115, li_116, li_117, li_118, li_121, li_122, li_124, li_136, li_148, li_160, li_680, li_200, li_201, li_255, li_700, li_950, li_1000, li_1400, li_3440, li_4096, li_9999, li_10000, li_20000, li_20033, li_20038, li_20124, li_32767, li_65535, li_1103515245, li_12345, li_m, sx_grd, sx_clamp, nI_add, sx_sub, pk_mul, sx_le, sx_lt, sx_eq, sx_eqm, sx_meq, sx_lem, sx_mle, sx_ltm, sx_mlt, sx_addm, sx_shl, sx_bit1, sx_bit0, fa_or, uA_s, uA_n, sA_s, sA_n, sx_uA, sx_uAn, sx_sAs, pk_us, pk_un, if_true, if_false, if_pos, if_neg, ob_some, Nat.add_zero, Nat.add_sub_cancel, eq_self, ne_eq, not_true, not_false_iff, false_or, true_or, or_false, or_true, false_and, true_and, and_false, and_true, c.1.2.1, e]
    refine RT.ite (fun d => RT.done hQ (Or.inl ⟨rfl, iff.mp d⟩)) (fun d => RT.done hQ (Or.inr ⟨rfl, fun z => d (iff.mpr z)⟩))
  · intro n i l1 hi ⟨m, e, ml, mb⟩ hk
    show RT (f_X10_isStairs_L4 v (n + 1) l1 (nI i)) _
    have s0 := sz_le V i
    have s1 := w.2 i hi
    unfold f_X10_isStairs_L4
    simp (disch := omega) only [bnd_nr, li_0, li_1, li_2, li_3, li_4, li_5, li_6, li_7, li_8, li_9, li_10, li_11, li_12, li_13, li_14, li_15, li_16, li_17, li_18, li_19, li_20, li_21, li_22, li_23, li_24, li_25, li_26, li_27, li_28, li_29, li_30, li_31, li_32, li_33, li_34, li_35, li_36, li_37, li_38, li_39, li_40, li_41, li_42, li_43, li_44, li_45, li_46, li_47, li_48, li_49, li_50, li_51, li_52, li_53, li_54, li_55, li_56, li_57, li_58, li_59, li_60, li_61, li_62, li_63, li_64, li_74, li_86, li_87, li_88, li_96, li_97, li_98, li_99, li_100, li_101, li_102, li_103, li_104, li_105, li_107, li_108, li_109, li_110, li_111, li_112, li_114, li_115, li_116, li_117, li_118, li_121, li_122, li_124, li_136, li_148, li_160, li_680, li_200, li_201, li_255, li_700, li_950, li_1000, li_1400, li_3440, li_4096, li_9999, li_10000, li_20000, li_20033, li_20038, li_20124, li_32767, li_65535, li_1103515245, li_12345, li_m, sx_grd, sx_clamp, nI_add, sx_sub, pk_mul, sx_le, sx_lt, sx_eq, sx_eqm, sx_meq, sx_lem, sx_mle, sx_ltm, sx_mlt, sx_addm, sx_shl, sx_bit1, sx_bit0, fa_or, uA_s, uA_n, sA_s, sA_n, sx_uA, sx_uAn, sx_sAs, pk_us, pk_un, if_true, if_false, if_pos, if_neg, ob_some, Nat.add_zero, Nat.add_sub_cancel, eq_self, ne_eq, not_true, not_false_iff, false_or, true_or, or_false, or_true, false_and, true_and, and_false, and_true, c.1.2.1, c.z i hi, e]
    refine hk _ ⟨m ||| 2 ^ (sz V i - 1), rfl, Nat.or_lt_two_pow ml (Nat.pow_lt_pow_right (by omega) (by omega)), fun k => ?_⟩
    rw [Nat.testBit_or, Nat.testBit_two_pow, mb]
    rw [← Bool.decide_or, decide_eq_decide]
    constructor
    · rintro (⟨h, h1, h2⟩ | z)
      · exact ⟨h, by omega, h2⟩
      · exact ⟨i, by omega, by omega⟩
    · rintro ⟨h, h1, h2⟩
      by_cases q : h = i
      · subst q; exact Or.inr (by omega)
      · exact Or.inl ⟨h, by omega, h2⟩
