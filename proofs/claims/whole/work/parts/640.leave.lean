theorem fill_keep {α : Type} {f g : Nat → α} {i : Nat} (h : f i = g i) : fa_fill f g (i + 1) = fa_fill f g i := by
  funext k
  unfold fa_fill
  by_cases c : k = i
  · subst c; rw [if_pos (by omega), if_neg (by omega)]; exact h
  · by_cases d : k < i
    · rw [if_pos d, if_pos (by omega)]
    · rw [if_neg d, if_neg (by omega)]
theorem fill_at {α : Type} {f g : Nat → α} {i : Nat} : fa_fill f g i i = g i := fa_fill_out (Nat.le_refl _)
theorem fill_same {α : Type} {f g : Nat → α} {i k : Nat} (h : f k = g k) : fa_fill f g i k = g k := by
  unfold fa_fill; split
  · exact h
  · rfl
theorem fill_up {f g : Nat → Int32} {i : Nat} {x : Int32} (h : f i = x) : upd (fa_fill f g i) i x = fa_fill f g (i + 1) := by rw [← h]; exact fa_fill_succ f g i
/-- who is behind p comes up -/
def cup (H P : Nat → Int32) (p : Nat) (o : Nat) : Int32 := if H o = H p ∧ ¬ P o ≤ P p then P o - 1 else P o
theorem cup_p (H P : Nat → Int32) (p : Nat) : cup H P p p = P p := if_neg (fun h => h.2 (Int32.le_refl _))
theorem m_leaves {I : Nat → Int32} {w : Int64} {A : Nat → Nat → Int32} {f : Nat → Int32} {b n p : Nat} {X : Nat → Nat → Int32} (hI : I 1 = nI n) (hn : n ≤ 12) (hb : b ≤ 86) (hp : p < n) : f_X12_leaves (I, w, sA A 10 (rowf f b X)) (nI b) (nI p) = some (I, w, sA A 10 (rowf f b (sA (uA X 1 p mO) 2 (fa_fill (cup (X 1) (X 2) p) (X 2) n)))) := by
  refine RT.eq ?_
  refine RT.cps (fun Q hQ => ?_)
  unfold f_X12_leaves
  refine RT.loop0 (fun k i z => f_X12_leaves_L2 (nI b) (nI p) k (nI i) z) n (fun i z => z = (I, w, sA A 10 (rowf f b (sA X 2 (fa_fill (cup (X 1) (X 2) p) (X 2) i))))) _ _ (by omega) ?_ ?_ ?_
  · rw [fa_fill_0, sA_self]
  · intro k z hz; subst hz
    show RT (f_X12_leaves_L2 (nI b) (nI p) (k + 1) (nI n) _) _
    unfold f_X12_leaves_L2
    simp (disch := omega) only [bnd_nr, li_0, li_1, li_2, li_3, li_4, li_5, li_6, li_7, li_8, li_9, li_10, li_11, li_12, li_13, li_14, li_15, li_16, li_17, li_18, li_19, li_20, li_21, li_22, li_23, li_24, li_25, li_26, li_27, li_28, li_29, li_30, li_31, li_32, li_33, li_34, li_35, li_36, li_37, li_38, li_39, li_40, li_41, li_42, li_43, li_44, li_45, li_46, li_47, li_48, li_49, li_50, li_51, li_52, li_53, li_54, li_55, li_56, li_57, li_58, li_59, li_60, li_61, li_62, li_63, li_64, li_74, li_86, li_96, li_97, li_98, li_99, li_100, li_121, li_122, li_200, li_201, li_255, li_700, li_950, li_1000, li_1400, li_3440, li_4096, li_9999, li_10000, li_20000, li_20033, li_20038, li_20124, li_32767, li_65535, li_1103515245, li_12345, li_m, sx_grd, sx_clamp, nI_add, sx_sub, pk_mul, sx_le, sx_lt, sx_eq, sx_eqm, sx_meq, sx_lem, sx_mle, sx_ltm, sx_mlt, sx_addm, sx_shl, sx_bit1, sx_bit0, fa_or, uA_s, uA_n, sA_s, sA_n, sx_uA, sx_uAn, sx_sAs, pk_us, pk_un, if_true, if_false, if_pos, if_neg, ob_some, Nat.add_zero, Nat.add_sub_cancel, eq_self, ne_eq, not_true, not_false_iff, false_or, true_or, or_false, or_true, false_and, true_and, and_false, and_true, rowf_00, rowf_01, rowf_2, rowf_14, rowf_26, rowf_38, rowf_50, rowf_62, rowf_74, rowf_u00, rowf_u01, rowf_u2, rowf_u14, rowf_u26, rowf_u38, rowf_u50, rowf_u62, rowf_u74, hI]
    exact RT.done hQ rfl
  · intro k i z hi hz hk; subst hz
    show RT (f_X12_leaves_L2 (nI b) (nI p) (k + 1) (nI i) _) _
    unfold f_X12_leaves_L2
    simp (disch := omega) only [bnd_nr, li_0, li_1, li_2, li_3, li_4, li_5, li_6, li_7, li_8, li_9, li_10, li_11, li_12, li_13, li_14, li_15, li_16, li_17, li_18, li_19, li_20, li_21, li_22, li_23, li_24, li_25, li_26, li_27, li_28, li_29, li_30, li_31, li_32, li_33, li_34, li_35, li_36, li_37, li_38, li_39, li_40, li_41, li_42, li_43, li_44, li_45, li_46, li_47, li_48, li_49, li_50, li_51, li_52, li_53, li_54, li_55, li_56, li_57, li_58, li_59, li_60, li_61, li_62, li_63, li_64, li_74, li_86, li_96, li_97, li_98, li_99, li_100, li_121, li_122, li_200, li_201, li_255, li_700, li_950, li_1000, li_1400, li_3440, li_4096, li_9999, li_10000, li_20000, li_20033, li_20038, li_20124, li_32767, li_65535, li_1103515245, li_12345, li_m, sx_grd, sx_clamp, nI_add, sx_sub, pk_mul, sx_le, sx_lt, sx_eq, sx_eqm, sx_meq, sx_lem, sx_mle, sx_ltm, sx_mlt, sx_addm, sx_shl, sx_bit1, sx_bit0, fa_or, uA_s, uA_n, sA_s, sA_n, sx_uA, sx_uAn, sx_sAs, pk_us, pk_un, if_true, if_false, if_pos, if_neg, ob_some, Nat.add_zero, Nat.add_sub_cancel, eq_self, ne_eq, not_true, not_false_iff, false_or, true_or, or_false, or_true, false_and, true_and, and_false, and_true, rowf_00, rowf_01, rowf_2, rowf_14, rowf_26, rowf_38, rowf_50, rowf_62, rowf_74, rowf_u00, rowf_u01, rowf_u2, rowf_u14, rowf_u26, rowf_u38, rowf_u50, rowf_u62, rowf_u74, hI, fill_at, fill_same (cup_p (X 1) (X 2) p)]
    refine RT.ite (fun c => RT.ite (fun d => ?_) (fun d => ?_)) (fun c => ?_)
    · exact hk _ (by rw [fill_keep (if_neg (fun h => h.2 d))])
    · exact hk _ (by rw [fill_up (if_pos ⟨c, d⟩)])
    · exact hk _ (by rw [fill_keep (if_neg (fun h => c h.1))])
theorem c_leave {I : Nat → Int32} {A : Nat → Nat → Int32} {n p a : Nat} (hI : I 0 = nI n) (hn : n ≤ 12) (hp : p < n) (ha : A 2 p = nI a) (h13 : a < 13) : f_X10_leave (I, A) (nI p) = some (I, sA (uA A 6 a (A 6 a - nI 1)) 3 (fa_fill (cup (A 2) (A 3) p) (A 3) n)) := by
  refine RT.eq ?_
  refine RT.cps (fun Q hQ => ?_)
  unfold f_X10_leave
  simp (disch := omega) only [bnd_nr, li_0, li_1, li_2, li_3, li_4, li_5, li_6, li_7, li_8, li_9, li_10, li_11, li_12, li_13, li_14, li_15, li_16, li_17, li_18, li_19, li_20, li_21, li_22, li_23, li_24, li_25, li_26, li_27, li_28, li_29, li_30, li_31, li_32, li_33, li_34, li_35, li_36, li_37, li_38, li_39, li_40, li_41, li_42, li_43, li_44, li_45, li_46, li_47, li_48, li_49, li_50, li_51, li_52, li_53, li_54, li_55, li_56, li_57, li_58, li_59, li_60, li_61, li_62, li_63, li_64, li_74, li_86, li_96, li_97, li_98, li_99, li_100, li_121, li_122, li_200, li_201, li_255, li_700, li_950, li_1000, li_1400, li_3440, li_4096, li_9999, li_10000, li_20000, li_20033, li_20038, li_20124, li_32767, li_65535, li_1103515245, li_12345, li_m, sx_grd, sx_clamp, nI_add, sx_sub, pk_mul, sx_le, sx_lt, sx_eq, sx_eqm, sx_meq, sx_lem, sx_mle, sx_ltm, sx_mlt, sx_addm, sx_shl, sx_bit1, sx_bit0, fa_or, uA_s, uA_n, sA_s, sA_n, sx_uA, sx_uAn, sx_sAs, pk_us, pk_un, if_true, if_false, if_pos, if_neg, ob_some, Nat.add_zero, Nat.add_sub_cancel, eq_self, ne_eq, not_true, not_false_iff, false_or, true_or, or_false, or_true, false_and, true_and, and_false, and_true, ha]
  refine RT.loop0 (fun k i z => f_X10_leave_L9 (nI p) (nI a) k (nI i) z) n (fun i z => z = (I, sA A 3 (fa_fill (cup (A 2) (A 3) p) (A 3) i))) _ _ (by omega) ?_ ?_ ?_
  · rw [fa_fill_0, sA_self]
  · intro k z hz; subst hz
    show RT (f_X10_leave_L9 (nI p) (nI a) (k + 1) (nI n) _) _
    unfold f_X10_leave_L9
    simp (disch := omega) only [bnd_nr, li_0, li_1, li_2, li_3, li_4, li_5, li_6, li_7, li_8, li_9, li_10, li_11, li_12, li_13, li_14, li_15, li_16, li_17, li_18, li_19, li_20, li_21, li_22, li_23, li_24, li_25, li_26, li_27, li_28, li_29, li_30, li_31, li_32, li_33, li_34, li_35, li_36, li_37, li_38, li_39, li_40, li_41, li_42, li_43, li_44, li_45, li_46, li_47, li_48, li_49, li_50, li_51, li_52, li_53, li_54, li_55, li_56, li_57, li_58, li_59, li_60, li_61, li_62, li_63, li_64, li_74, li_86, li_96, li_97, li_98, li_99, li_100, li_121, li_122, li_200, li_201, li_255, li_700, li_950, li_1000, li_1400, li_3440, li_4096, li_9999, li_10000, li_20000, li_20033, li_20038, li_20124, li_32767, li_65535, li_1103515245, li_12345, li_m, sx_grd, sx_clamp, nI_add, sx_sub, pk_mul, sx_le, sx_lt, sx_eq, sx_eqm, sx_meq, sx_lem, sx_mle, sx_ltm, sx_mlt, sx_addm, sx_shl, sx_bit1, sx_bit0, fa_or, uA_s, uA_n, sA_s, sA_n, sx_uA, sx_uAn, sx_sAs, pk_us, pk_un, if_true, if_false, if_pos, if_neg, ob_some, Nat.add_zero, Nat.add_sub_cancel, eq_self, ne_eq, not_true, not_false_iff, false_or, true_or, or_false, or_true, false_and, true_and, and_false, and_true, hI]
    exact RT.done hQ rfl
  · intro k i z hi hz hk; subst hz
    show RT (f_X10_leave_L9 (nI p) (nI a) (k + 1) (nI i) _) _
    unfold f_X10_leave_L9
    simp (disch := omega) only [bnd_nr, li_0, li_1, li_2, li_3, li_4, li_5, li_6, li_7, li_8, li_9, li_10, li_11, li_12, li_13, li_14, li_15, li_16, li_17, li_18, li_19, li_20, li_21, li_22, li_23, li_24, li_25, li_26, li_27, li_28, li_29, li_30, li_31, li_32, li_33, li_34, li_35, li_36, li_37, li_38, li_39, li_40, li_41, li_42, li_43, li_44, li_45, li_46, li_47, li_48, li_49, li_50, li_51, li_52, li_53, li_54, li_55, li_56, li_57, li_58, li_59, li_60, li_61, li_62, li_63, li_64, li_74, li_86, li_96, li_97, li_98, li_99, li_100, li_121, li_122, li_200, li_201, li_255, li_700, li_950, li_1000, li_1400, li_3440, li_4096, li_9999, li_10000, li_20000, li_20033, li_20038, li_20124, li_32767, li_65535, li_1103515245, li_12345, li_m, sx_grd, sx_clamp, nI_add, sx_sub, pk_mul, sx_le, sx_lt, sx_eq, sx_eqm, sx_meq, sx_lem, sx_mle, sx_ltm, sx_mlt, sx_addm, sx_shl, sx_bit1, sx_bit0, fa_or, uA_s, uA_n, sA_s, sA_n, sx_uA, sx_uAn, sx_sAs, pk_us, pk_un, if_true, if_false, if_pos, if_neg, ob_some, Nat.add_zero, Nat.add_sub_cancel, eq_self, ne_eq, not_true, not_false_iff, false_or, true_or, or_false, or_true, false_and, true_and, and_false, and_true, hI, fill_at, fill_same (cup_p (A 2) (A 3) p)]
    refine RT.ite (fun c => RT.ite (fun d => ?_) (fun d => ?_)) (fun c => ?_)
    · exact hk _ (by rw [fill_keep (if_neg (fun h => h.2 d))])
    · exact hk _ (by rw [fill_up (if_pos ⟨by rw [c, ha], d⟩)])
    · exact hk _ (by rw [fill_keep (if_neg (fun h => c (by rw [h.1, ha])))])
theorem c_enter {I : Nat → Int32} {A : Nat → Nat → Int32} {p h : Nat} (hp : p < 12) (hh : h < 13) : f_X10_enter (I, A) (nI p) (nI h) = some (I, uA (uA (uA (uA A 2 p (nI h)) 3 p (A 6 h)) 4 p (I 2)) 6 h (A 6 h + nI 1)) := by
  unfold f_X10_enter
  simp (disch := omega) only [bnd_nr, li_0, li_1, li_2, li_3, li_4, li_5, li_6, li_7, li_8, li_9, li_10, li_11, li_12, li_13, li_14, li_15, li_16, li_17, li_18, li_19, li_20, li_21, li_22, li_23, li_24, li_25, li_26, li_27, li_28, li_29, li_30, li_31, li_32, li_33, li_34, li_35, li_36, li_37, li_38, li_39, li_40, li_41, li_42, li_43, li_44, li_45, li_46, li_47, li_48, li_49, li_50, li_51, li_52, li_53, li_54, li_55, li_56, li_57, li_58, li_59, li_60, li_61, li_62, li_63, li_64, li_74, li_86, li_96, li_97, li_98, li_99, li_100, li_121, li_122, li_200, li_201, li_255, li_700, li_950, li_1000, li_1400, li_3440, li_4096, li_9999, li_10000, li_20000, li_20033, li_20038, li_20124, li_32767, li_65535, li_1103515245, li_12345, li_m, sx_grd, sx_clamp, nI_add, sx_sub, pk_mul, sx_le, sx_lt, sx_eq, sx_eqm, sx_meq, sx_lem, sx_mle, sx_ltm, sx_mlt, sx_addm, sx_shl, sx_bit1, sx_bit0, fa_or, uA_s, uA_n, sA_s, sA_n, sx_uA, sx_uAn, sx_sAs, pk_us, pk_un, if_true, if_false, if_pos, if_neg, ob_some, Nat.add_zero, Nat.add_sub_cancel, eq_self, ne_eq, not_true, not_false_iff, false_or, true_or, or_false, or_true, false_and, true_and, and_false, and_true]
theorem c_addHouse {I : Nat → Int32} {A : Nat → Nat → Int32} {h : Nat} (hI : I 1 = nI h) (hh : h ≤ 12) : f_X10_addHouse (I, A) = some (nI h, upd I 1 (nI (h + 1)), uA (uA A 6 h (nI 0)) 7 h (I 2)) := by
  unfold f_X10_addHouse
  simp (disch := omega) only [bnd_nr, li_0, li_1, li_2, li_3, li_4, li_5, li_6, li_7, li_8, li_9, li_10, li_11, li_12, li_13, li_14, li_15, li_16, li_17, li_18, li_19, li_20, li_21, li_22, li_23, li_24, li_25, li_26, li_27, li_28, li_29, li_30, li_31, li_32, li_33, li_34, li_35, li_36, li_37, li_38, li_39, li_40, li_41, li_42, li_43, li_44, li_45, li_46, li_47, li_48, li_49, li_50, li_51, li_52, li_53, li_54, li_55, li_56, li_57, li_58, li_59, li_60, li_61, li_62, li_63, li_64, li_74, li_86, li_96, li_97, li_98, li_99, li_100, li_121, li_122, li_200, li_201, li_255, li_700, li_950, li_1000, li_1400, li_3440, li_4096, li_9999, li_10000, li_20000, li_20033, li_20038, li_20124, li_32767, li_65535, li_1103515245, li_12345, li_m, sx_grd, sx_clamp, nI_add, sx_sub, pk_mul, sx_le, sx_lt, sx_eq, sx_eqm, sx_meq, sx_lem, sx_mle, sx_ltm, sx_mlt, sx_addm, sx_shl, sx_bit1, sx_bit0, fa_or, uA_s, uA_n, sA_s, sA_n, sx_uA, sx_uAn, sx_sAs, pk_us, pk_un, if_true, if_false, if_pos, if_neg, ob_some, Nat.add_zero, Nat.add_sub_cancel, eq_self, ne_eq, not_true, not_false_iff, false_or, true_or, or_false, or_true, false_and, true_and, and_false, and_true, hI]
