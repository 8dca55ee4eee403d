/-! friends -/
abbrev FD : Type := Nat × (Nat → Nat) × (Nat → Nat)
def FOK (F : FD) (n : Nat) : Prop := F.1 ≤ 12 ∧ ∀ k, k < F.1 → F.2.1 k < n ∧ F.2.2 k < n ∧ F.2.1 k ≠ F.2.2 k
def FC (o : Ob) (F : FD) : Prop := o.1 0 = nI F.1 ∧ ∀ k, k < F.1 → o.2 1 k = nI (F.2.1 k) ∧ o.2 2 k = nI (F.2.2 k)
def FM (M : MS) (F : FD) : Prop := M.1 2 = nI F.1 ∧ ∀ k, k < F.1 → M.2.2 1 (2 * k) = nI (F.2.1 k) ∧ M.2.2 1 (2 * k + 1) = nI (F.2.2 k)
theorem FM_of {M M' : MS} {F : FD} (e1 : M'.1 2 = M.1 2) (e2 : M'.2.2 1 = M.2.2 1) (h : FM M F) : FM M' F := by unfold FM; rw [e1, e2]; exact h
def fin_ (F : FD) (V : VT) : Nat := fb_ct (fun k => decide (ho V (F.2.1 k) = ho V (F.2.2 k))) F.1
theorem c_inOne {v : Ob} {V : VT} (c : VC v V) (w : WFP V) {p q : Nat} (hp : p < vn V) (hq : q < vn V) : f_X10_inOne v (nI p) (nI q) = some (nI (if ho V p = ho V q then 1 else 0)) := by
  have b0 := w.1
  have b1 := w.2.1 p hp
  have b2 := w.2.1 q hq
  unfold f_X10_inOne
  simp (disch := omega) only [bnd_nr, li_0, li_1, li_2, li_3, li_4, li_5, li_6, li_7, li_8, li_9, li_10, li_11, li_12, li_13, li_14, li_15, li_16, li_17, li_18, li_19, li_20, li_21, li_22, li_23, li_24, li_25, li_26, li_27, li_28, li_29, li_30, li_31, li_32, li_33, li_34, li_35, li_36, li_37, li_38, li_39, li_40, li_41, li_42, li_43, li_44, li_45, li_46, li_47, li_48, li_49, li_50, li_51, li_52, li_53, li_54, li_55, li_56, li_57, li_58, li_59, li_60, li_61, li_62, li_63, li_64, li_74, li_86, li_87, li_88, li_96, li_97, li_98, li_99, li_100, li_101, li_102, li_103, li_104, li_105, li_107, li_108, li_109, li_110, li_111, li_112, li_114, li_115, li_116, li_117, li_118, li_121, li_122, li_124, li_136, li_148, li_160, li_680, li_200, li_201, li_255, li_700, li_950, li_1000, li_1400, li_3440, li_4096, li_9999, li_10000, li_20000, li_20033, li_20038, li_20124, li_32767, li_65535, li_1103515245, li_12345, li_m, sx_grd, sx_clamp, nI_add, sx_sub, pk_mul, sx_le, sx_lt, sx_eq, sx_eqm, sx_meq, sx_lem, sx_mle, sx_ltm, sx_mlt, sx_addm, sx_shl, sx_bit1, sx_bit0, fa_or, uA_s, uA_n, sA_s, sA_n, sx_uA, sx_uAn, sx_sAs, pk_us, pk_un, if_true, if_false, if_pos, if_neg, ob_some, Nat.add_zero, Nat.add_sub_cancel, eq_self, ne_eq, not_true, not_false_iff, false_or, true_or, or_false, or_true, false_and, true_and, and_false, and_true, c.h p hp, c.h q hq]
  split <;> rfl
theorem c_inOneHouse {o v : Ob} {F : FD} {V : VT} (f : FC o F) (fk : FOK F (vn V)) (c : VC v V) (w : WFP V) : f_X3_inOneHouse o v = some (nI (fin_ F V)) := by
  have b0 := w.1
  have f0 := fk.1
  refine RT.eq ?_
  refine RT.cps (fun Q hQ => ?_)
  unfold f_X3_inOneHouse
  refine RT.loop0 (fun n i (l2 : Int32) => f_X3_inOneHouse_L4 o v n l2 (nI i)) F.1 (fun i l2 => l2 = nI (fb_ct (fun k => decide (ho V (F.2.1 k) = ho V (F.2.2 k))) i)) _ _ (by omega) rfl ?_ ?_
  · intro n l2 e
    show RT (f_X3_inOneHouse_L4 o v (n + 1) l2 (nI F.1)) _
    unfold f_X3_inOneHouse_L4
    simp (disch := omega) only [bnd_nr, li_0, li_1, li_2, li_3, li_4, li_5, li_6, li_7, li_8, li_9, li_10, li_11, li_12, li_13, li_14, li_15, li_16, li_17, li_18, li_19, li_20, li_21, li_22, li_23, li_24, li_25, li_26, li_27, li_28, li_29, li_30, li_31, li_32, li_33, li_34, li_35, li_36, li_37, li_38, li_39, li_40, li_41, li_42, li_43, li_44, li_45, li_46, li_47, li_48, li_49, li_50, li_51, li_52, li_53, li_54, li_55, li_56, li_57, li_58, li_59, li_60, li_61, li_62, li_63, li_64, li_74, li_86, li_87, li_88, li_96, li_97, li_98, li_99, li_100, li_101, li_102, li_103, li_104, li_105, li_107, li_108, li_109, li_110, li_111, li_112, li_114, li_115, li_116, li_117, li_118, li_121, li_122, li_124, li_136, li_148, li_160, li_680, li_200, li_201, li_255, li_700, li_950, li_1000, li_1400, li_3440, li_4096, li_9999, li_10000, li_20000, li_20033, li_20038, li_20124, li_32767, li_65535, li_1103515245, li_12345, li_m, sx_grd, sx_clamp, nI_add, sx_sub, pk_mul, sx_le, sx_lt, sx_eq, sx_eqm, sx_meq, sx_lem, sx_mle, sx_ltm, sx_mlt, sx_addm, sx_shl, sx_bit1, sx_bit0, fa_or, uA_s, uA_n, sA_s, sA_n, sx_uA, sx_uAn, sx_sAs, pk_us, pk_un, if_true, if_false, if_pos, if_neg, ob_some, Nat.add_zero, Nat.add_sub_cancel, eq_self, ne_eq, not_true, not_false_iff, false_or, true_or, or_false, or_true, false_and, true_and, and_false, and_true, f.1]
    exact RT.done hQ e
  · intro n i l2 hi e hk
    show RT (f_X3_inOneHouse_L4 o v (n + 1) l2 (nI i)) _
    have fi := f.2 i hi
    have fb := fk.2 i hi
    unfold f_X3_inOneHouse_L4
    by_cases q : ho V (F.2.1 i) = ho V (F.2.2 i)
    · simp (disch := omega) only [bnd_nr, li_0, li_1, li_2, li_3, li_4, li_5, li_6, li_7, li_8, li_9, li_10, li_11, li_12, li_13, li_14, li_15, li_16, li_17, li_18, li_19, li_20, li_21, li_22, li_23, li_24, li_25, li_26, li_27, li_28, li_29, li_30, li_31, li_32, li_33, li_34, li_35, li_36, li_37, li_38, li_39, li_40, li_41, li_42, li_43, li_44, li_45, li_46, li_47, li_48, li_49, li_50, li_51, li_52, li_53, li_54, li_55, li_56, li_57, li_58, li_59, li_60, li_61, li_62, li_63, li_64, li_74, li_86, li_87, li_88, li_96, li_97, li_98, li_99, li_100, li_101, li_102, li_103, li_104, li_105, li_107, li_108, li_109, li_110, li_111, li_112, li_114, li_115, li_116, li_117, li_118, li_121, li_122, li_124, li_136, li_148, li_160, li_680, li_200, li_201, li_255, li_700, li_950, li_1000, li_1400, li_3440, li_4096, li_9999, li_10000, li_20000, li_20033, li_20038, li_20124, li_32767, li_65535, li_1103515245, li_12345, li_m, sx_grd, sx_clamp, nI_add, sx_sub, pk_mul, sx_le, sx_lt, sx_eq, sx_eqm, sx_meq, sx_lem, sx_mle, sx_ltm, sx_mlt, sx_addm, sx_shl, sx_bit1, sx_bit0, fa_or, uA_s, uA_n, sA_s, sA_n, sx_uA, sx_uAn, sx_sAs, pk_us, pk_un, if_true, if_false, if_pos, if_neg, ob_some, Nat.add_zero, Nat.add_sub_cancel, eq_self, ne_eq, not_true, not_false_iff, false_or, true_or, or_false, or_true, false_and, true_and, and_false, and_true, f.1, fi.1, fi.2, c_inOne c w fb.1 fb.2.1, e, if_pos q]
      exact hk _ (by rw [ct_yes (P := fun k => decide (ho V (F.2.1 k) = ho V (F.2.2 k))) (decide_eq_true q)])
    · simp (disch := omega) only [bnd_nr, li_0, li_1, li_2, li_3, li_4, li_5, li_6, li_7, li_8, li_9, li_10, li_11, li_12, li_13, li_14, li_15, li_16, li_17, li_18, li_19, li_20, li_21, li_22, li_23, li_24, li_25, li_26, li_27, li_28, li_29, li_30, li_31, li_32, li_33, li_34, li_35, li_36, li_37, li_38, li_39, li_40, li_41, li_42, li_43, li_44, li_45, li_46, li_47, li_48, li_49, li_50, li_51, li_52, li_53, li_54, li_55, li_56, li_57, li_58, li_59, li_60, li_61, li_62, li_63, li_64, li_74, li_86, li_87, li_88, li_96, li_97, li_98, li_99, li_100, li_101, li_102, li_103, li_104, li_105, li_107, li_108, li_109, li_110, li_111, li_112, li_114, li_115, li_116, li_117, li_118, li_121, li_122, li_124, li_136, li_148, li_160, li_680, li_200, li_201, li_255, li_700, li_950, li_1000, li_1400, li_3440, li_4096, li_9999, li_10000, li_20000, li_20033, li_20038, li_20124, li_32767, li_65535, li_1103515245, li_12345, li_m, sx_grd, sx_clamp, nI_add, sx_sub, pk_mul, sx_le, sx_lt, sx_eq, sx_eqm, sx_meq, sx_lem, sx_mle, sx_ltm, sx_mlt, sx_addm, sx_shl, sx_bit1, sx_bit0, fa_or, uA_s, uA_n, sA_s, sA_n, sx_uA, sx_uAn, sx_sAs, pk_us, pk_un, if_true, if_false, if_pos, if_neg, ob_some, Nat.add_zero, Nat.add_sub_cancel, eq_self, ne_eq, not_true, not_false_iff, false_or, true_or, or_false, or_true, false_and, true_and, and_false, and_true, f.1, fi.1, fi.2, c_inOne c w fb.1 fb.2.1, e, if_neg q]
      exact hk _ (by rw [ct_no (P := fun k => decide (ho V (F.2.1 k) = ho V (F.2.2 k))) (decide_eq_false q)])
theorem m_friendsIn {M : MS} {b : Nat} {F : FD} {V : VT} (f : FM M F) (fk : FOK F (vn V)) (v : VM M b V) (w : WFP V) (hb : b ≤ 86) : f_X12_friendsIn M (nI b) = some (nI (fin_ F V)) := by
  have b0 := w.1
  have f0 := fk.1
  refine RT.eq ?_
  refine RT.cps (fun Q hQ => ?_)
  unfold f_X12_friendsIn
  refine RT.loop0 (fun n i (l2 : Int32) => f_X12_friendsIn_L4 (nI b) M n l2 (nI i)) F.1 (fun i l2 => l2 = nI (fb_ct (fun k => decide (ho V (F.2.1 k) = ho V (F.2.2 k))) i)) _ _ (by omega) rfl ?_ ?_
  · intro n l2 e
    show RT (f_X12_friendsIn_L4 (nI b) M (n + 1) l2 (nI F.1)) _
    unfold f_X12_friendsIn_L4
    simp (disch := omega) only [bnd_nr, li_0, li_1, li_2, li_3, li_4, li_5, li_6, li_7, li_8, li_9, li_10, li_11, li_12, li_13, li_14, li_15, li_16, li_17, li_18, li_19, li_20, li_21, li_22, li_23, li_24, li_25, li_26, li_27, li_28, li_29, li_30, li_31, li_32, li_33, li_34, li_35, li_36, li_37, li_38, li_39, li_40, li_41, li_42, li_43, li_44, li_45, li_46, li_47, li_48, li_49, li_50, li_51, li_52, li_53, li_54, li_55, li_56, li_57, li_58, li_59, li_60, li_61, li_62, li_63, li_64, li_74, li_86, li_87, li_88, li_96, li_97, li_98, li_99, li_100, li_101, li_102, li_103, li_104, li_105, li_107, li_108, li_109, li_110, li_111, li_112, li_114, li_115, li_116, li_117, li_118, li_121, li_122, li_124, li_136, li_148, li_160, li_680, li_200, li_201, li_255, li_700, li_950, li_1000, li_1400, li_3440, li_4096, li_9999, li_10000, li_20000, li_20033, li_20038, li_20124, li_32767, li_65535, li_1103515245, li_12345, li_m, sx_grd, sx_clamp, nI_add, sx_sub, pk_mul, sx_le, sx_lt, sx_eq, sx_eqm, sx_meq, sx_lem, sx_mle, sx_ltm, sx_mlt, sx_addm, sx_shl, sx_bit1, sx_bit0, fa_or, uA_s, uA_n, sA_s, sA_n, sx_uA, sx_uAn, sx_sAs, pk_us, pk_un, if_true, if_false, if_pos, if_neg, ob_some, Nat.add_zero, Nat.add_sub_cancel, eq_self, ne_eq, not_true, not_false_iff, false_or, true_or, or_false, or_true, false_and, true_and, and_false, and_true, f.1]
    exact RT.done hQ e
  · intro n i l2 hi e hk
    show RT (f_X12_friendsIn_L4 (nI b) M (n + 1) l2 (nI i)) _
    have fi := f.2 i hi
    have fb := fk.2 i hi
    have h1 := w.2.1 _ fb.1
    have h2 := w.2.1 _ fb.2.1
    unfold f_X12_friendsIn_L4
    simp (disch := omega) only [bnd_nr, li_0, li_1, li_2, li_3, li_4, li_5, li_6, li_7, li_8, li_9, li_10, li_11, li_12, li_13, li_14, li_15, li_16, li_17, li_18, li_19, li_20, li_21, li_22, li_23, li_24, li_25, li_26, li_27, li_28, li_29, li_30, li_31, li_32, li_33, li_34, li_35, li_36, li_37, li_38, li_39, li_40, li_41, li_42, li_43, li_44, li_45, li_46, li_47, li_48, li_49, li_50, li_51, li_52, li_53, li_54, li_55, li_56, li_57, li_58, li_59, li_60, li_61, li_62, li_63, li_64, li_74, li_86, li_87, li_88, li_96, li_97, li_98, li_99, li_100, li_101, li_102, li_103, li_104, li_105, li_107, li_108, li_109, li_110, li_111, li_112, li_114, li_115, li_116, li_117, li_118, li_121, li_122, li_124, li_136, li_148, li_160, li_680, li_200, li_201, li_255, li_700, li_950, li_1000, li_1400, li_3440, li_4096, li_9999, li_10000, li_20000, li_20033, li_20038, li_20124, li_32767, li_65535, li_1103515245, li_12345, li_m, sx_grd, sx_clamp, nI_add, sx_sub, pk_mul, sx_le, sx_lt, sx_eq, sx_eqm, sx_meq, sx_lem, sx_mle, sx_ltm, sx_mlt, sx_addm, sx_shl, sx_bit1, sx_bit0, fa_or, uA_s, uA_n, sA_s, sA_n, sx_uA, sx_uAn, sx_sAs, pk_us, pk_un, if_true, if_false, if_pos, if_neg, ob_some, Nat.add_zero, Nat.add_sub_cancel, eq_self, ne_eq, not_true, not_false_iff, false_or, true_or, or_false, or_true, false_and, true_and, and_false, and_true, f.1, fi.1, fi.2, v.h _ fb.1, v.h _ fb.2.1, e]
    refine RT.ite (fun q => hk _ ?_) (fun q => hk _ ?_)
    · rw [ct_yes (P := fun k => decide (ho V (F.2.1 k) = ho V (F.2.2 k))) (decide_eq_true q)]
    · rw [ct_no (P := fun k => decide (ho V (F.2.1 k) = ho V (F.2.2 k))) (decide_eq_false q)]
/-- friends among the first i couples -/
def adB (F : FD) (i p q : Nat) : Bool := decide (0 < fb_ct (fun k => (decide (F.2.1 k = p) && decide (F.2.2 k = q)) || (decide (F.2.2 k = p) && decide (F.2.1 k = q))) i)
theorem adB_iff {F : FD} {i p q : Nat} : adB F i p q = true ↔ ∃ k, k < i ∧ ((F.2.1 k = p ∧ F.2.2 k = q) ∨ (F.2.2 k = p ∧ F.2.1 k = q)) := by
  unfold adB
  rw [decide_eq_true_eq, fb_ct_pos]
  simp only [Bool.or_eq_true, Bool.and_eq_true, decide_eq_true_eq]
def foM (F : FD) (p : Nat) : Nat := msk (adB F F.1 p) 12
theorem mask_eq {m : Nat} {P : Nat → Bool} (h : m < 2 ^ 12) (e : ∀ q, q < 12 → m.testBit q = P q) : m = msk P 12 := bit_ext (n := 12) h (msk_lt P 12) (fun i hi => by rw [e i hi, msk_bit, decide_eq_true hi, Bool.true_and])
theorem bool_eq {a b : Bool} (h : a = true ↔ b = true) : a = b := by
  cases a <;> cases b <;> simp_all
theorem c_of {o : Ob} {F : FD} {n0 : Nat} (f : FC o F) (fk : FOK F n0) (h12 : n0 ≤ 12) {p : Nat} (hp : p < 2147483648) : f_X3_of o (nI p) = some (nI (foM F p)) := by
  have f0 := fk.1
  refine RT.eq ?_
  refine RT.cps (fun Q hQ => ?_)
  unfold f_X3_of
  refine RT.loop0 (fun n i (l2 : Int32) => f_X3_of_L4 (nI p) o n l2 (nI i)) F.1 (fun i l2 => ∃ m, l2 = nI m ∧ m < 2 ^ 12 ∧ ∀ q, q < 12 → m.testBit q = adB F i p q) _ _ (by omega) ⟨0, rfl, by omega, fun q _ => by rw [Nat.zero_testBit]; rfl⟩ ?_ ?_
  · intro n l2 ⟨m, e, ml, mb⟩
    show RT (f_X3_of_L4 (nI p) o (n + 1) l2 (nI F.1)) _
    unfold f_X3_of_L4
    simp (disch := omega) only [bnd_nr, li_0, li_1, li_2, li_3, li_4, li_5, li_6, li_7, li_8, li_9, li_10, li_11, li_12, li_13, li_14, li_15, li_16, li_17, li_18, li_19, li_20, li_21, li_22, li_23, li_24, li_25, li_26, li_27, li_28, li_29, li_30, li_31, li_32, li_33, li_34, li_35, li_36, li_37, li_38, li_39, li_40, li_41, li_42, li_43, li_44, li_45, li_46, li_47, li_48, li_49, li_50, li_51, li_52, li_53, li_54, li_55, li_56, li_57, li_58, li_59, li_60, li_61, li_62, li_63, li_64, li_74, li_86, li_87, li_88, li_96, li_97, li_98, li_99, li_100, li_101, li_102, li_103, li_104, li_105, li_107, li_108, li_109, li_110, li_111, li_112, li_114, li_115, li_116, li_117, li_118, li_121, li_122, li_124, li_136, li_148, li_160, li_680, li_200, li_201, li_255, li_700, li_950, li_1000, li_1400, li_3440, li_4096, li_9999, li_10000, li_20000, li_20033, li_20038, li_20124, li_32767, li_65535, li_1103515245, li_12345, li_m, sx_grd, sx_clamp, nI_add, sx_sub, pk_mul, sx_le, sx_lt, sx_eq, sx_eqm, sx_meq, sx_lem, sx_mle, sx_ltm, sx_mlt, sx_addm, sx_shl, sx_bit1, sx_bit0, fa_or, uA_s, uA_n, sA_s, sA_n, sx_uA, sx_uAn, sx_sAs, pk_us, pk_un, if_true, if_false, if_pos, if_neg, ob_some, Nat.add_zero, Nat.add_sub_cancel, eq_self, ne_eq, not_true, not_false_iff, false_or, true_or, or_false, or_true, false_and, true_and, and_false, and_true, f.1]
    exact RT.done hQ (by rw [e, mask_eq ml mb]; rfl)
  · intro n i l2 hi ⟨m, e, ml, mb⟩ hk
    show RT (f_X3_of_L4 (nI p) o (n + 1) l2 (nI i)) _
    have fi := f.2 i hi
    have fb := fk.2 i hi
    have pw : ∀ x, x < 12 → 2 ^ x < 2 ^ 12 := fun x hx => Nat.pow_lt_pow_right (by omega) hx
    unfold f_X3_of_L4
    simp (disch := omega) only [bnd_nr, li_0, li_1, li_2, li_3, li_4, li_5, li_6, li_7, li_8, li_9, li_10, li_11, li_12, li_13, li_14, li_15, li_16, li_17, li_18, li_19, li_20, li_21, li_22, li_23, li_24, li_25, li_26, li_27, li_28, li_29, li_30, li_31, li_32, li_33, li_34, li_35, li_36, li_37, li_38, li_39, li_40, li_41, li_42, li_43, li_44, li_45, li_46, li_47, li_48, li_49, li_50, li_51, li_52, li_53, li_54, li_55, li_56, li_57, li_58, li_59, li_60, li_61, li_62, li_63, li_64, li_74, li_86, li_87, li_88, li_96, li_97, li_98, li_99, li_100, li_101, li_102, li_103, li_104, li_105, li_107, li_108, li_109, li_110, li_111, li_112, li_114, li_115, li_116, li_117, li_118, li_121, li_122, li_124, li_136, li_148, li_160, li_680, li_200, li_201, li_255, li_700, li_950, li_1000, li_1400, li_3440, li_4096, li_9999, li_10000, li_20000, li_20033, li_20038, li_20124, li_32767, li_65535, li_1103515245, li_12345, li_m, sx_grd, sx_clamp, nI_add, sx_sub, pk_mul, sx_le, sx_lt, sx_eq, sx_eqm, sx_meq, sx_lem, sx_mle, sx_ltm, sx_mlt, sx_addm, sx_shl, sx_bit1, sx_bit0, fa_or, uA_s, uA_n, sA_s, sA_n, sx_uA, sx_uAn, sx_sAs, pk_us, pk_un, if_true, if_false, if_pos, if_neg, ob_some, Nat.add_zero, Nat.add_sub_cancel, eq_self, ne_eq, not_true, not_false_iff, false_or, true_or, or_false, or_true, false_and, true_and, and_false, and_true, f.1, fi.1, fi.2, e]
    refine RT.ite (fun d => hk _ ⟨_, rfl, Nat.or_lt_two_pow ml (pw _ (by omega)), fun q hq => bool_eq ?_⟩) (fun d => RT.ite (fun d2 => hk _ ⟨_, rfl, Nat.or_lt_two_pow ml (pw _ (by omega)), fun q hq => bool_eq ?_⟩) (fun d2 => hk _ ⟨_, rfl, ml, fun q hq => bool_eq ?_⟩))
    · rw [Nat.testBit_or, Nat.testBit_two_pow, Bool.or_eq_true, mb q hq, adB_iff, adB_iff, decide_eq_true_eq]
      constructor
      · rintro (⟨k, k1, k2⟩ | z)
        · exact ⟨k, by omega, k2⟩
        · exact ⟨i, by omega, Or.inl ⟨d, z⟩⟩
      · rintro ⟨k, k1, k2⟩
        by_cases ki : k = i
        · subst ki; exact Or.inr (by omega)
        · exact Or.inl ⟨k, by omega, k2⟩
    · rw [Nat.testBit_or, Nat.testBit_two_pow, Bool.or_eq_true, mb q hq, adB_iff, adB_iff, decide_eq_true_eq]
      constructor
      · rintro (⟨k, k1, k2⟩ | z)
        · exact ⟨k, by omega, k2⟩
        · exact ⟨i, by omega, Or.inr ⟨d2, z⟩⟩
      · rintro ⟨k, k1, k2⟩
        by_cases ki : k = i
        · subst ki; exact Or.inr (by omega)
        · exact Or.inl ⟨k, by omega, k2⟩
    · rw [mb q hq, adB_iff, adB_iff]
      constructor
      · rintro ⟨k, k1, k2⟩; exact ⟨k, by omega, k2⟩
      · rintro ⟨k, k1, k2⟩
        by_cases ki : k = i
        · subst ki; omega
        · exact ⟨k, by omega, k2⟩
theorem m_friendsOf {M : MS} {F : FD} {n0 : Nat} (f : FM M F) (fk : FOK F n0) (h12 : n0 ≤ 12) {p : Nat} (hp : p < 2147483648) : f_X12_friendsOf M (nI p) = some (nI (foM F p)) := by
  have f0 := fk.1
  refine RT.eq ?_
  refine RT.cps (fun Q hQ => ?_)
  unfold f_X12_friendsOf
  refine RT.loop0 (fun n i (l2 : Int32) => f_X12_friendsOf_L4 (nI p) M n l2 (nI i)) F.1 (fun i l2 => ∃ m, l2 = nI m ∧ m < 2 ^ 12 ∧ ∀ q, q < 12 → m.testBit q = adB F i p q) _ _ (by omega) ⟨0, rfl, by omega, fun q _ => by rw [Nat.zero_testBit]; rfl⟩ ?_ ?_
  · intro n l2 ⟨m, e, ml, mb⟩
    show RT (f_X12_friendsOf_L4 (nI p) M (n + 1) l2 (nI F.1)) _
    unfold f_X12_friendsOf_L4
    simp (disch := omega) only [bnd_nr, li_0, li_1, li_2, li_3, li_4, li_5, li_6, li_7, li_8, li_9, li_10, li_11, li_12, li_13, li_14, li_15, li_16, li_17, li_18, li_19, li_20, li_21, li_22, li_23, li_24, li_25, li_26, li_27, li_28, li_29, li_30, li_31, li_32, li_33, li_34, li_35, li_36, li_37, li_38, li_39, li_40, li_41, li_42, li_43, li_44, li_45, li_46, li_47, li_48, li_49, li_50, li_51, li_52, li_53, li_54, li_55, li_56, li_57, li_58, li_59, li_60, li_61, li_62, li_63, li_64, li_74, li_86, li_87, li_88, li_96, li_97, li_98, li_99, li_100, li_101, li_102, li_103, li_104, li_105, li_107, li_108, li_109, li_110, li_111, li_112, li_114, li_115, li_116, li_117, li_118, li_121, li_122, li_124, li_136, li_148, li_160, li_680, li_200, li_201, li_255, li_700, li_950, li_1000, li_1400, li_3440, li_4096, li_9999, li_10000, li_20000, li_20033, li_20038, li_20124, li_32767, li_65535, li_1103515245, li_12345, li_m, sx_grd, sx_clamp, nI_add, sx_sub, pk_mul, sx_le, sx_lt, sx_eq, sx_eqm, sx_meq, sx_lem, sx_mle, sx_ltm, sx_mlt, sx_addm, sx_shl, sx_bit1, sx_bit0, fa_or, uA_s, uA_n, sA_s, sA_n, sx_uA, sx_uAn, sx_sAs, pk_us, pk_un, if_true, if_false, if_pos, if_neg, ob_some, Nat.add_zero, Nat.add_sub_cancel, eq_self, ne_eq, not_true, not_false_iff, false_or, true_or, or_false, or_true, false_and, true_and, and_false, and_true, f.1]
    exact RT.done hQ (by rw [e, mask_eq ml mb]; rfl)
  · intro n i l2 hi ⟨m, e, ml, mb⟩ hk
    show RT (f_X12_friendsOf_L4 (nI p) M (n + 1) l2 (nI i)) _
    have fi := f.2 i hi
    have fb := fk.2 i hi
    have pw : ∀ x, x < 12 → 2 ^ x < 2 ^ 12 := fun x hx => Nat.pow_lt_pow_right (by omega) hx
    unfold f_X12_friendsOf_L4 f_X12_friendsOf_J41
    simp (disch := omega) only [bnd_nr, li_0, li_1, li_2, li_3, li_4, li_5, li_6, li_7, li_8, li_9, li_10, li_11, li_12, li_13, li_14, li_15, li_16, li_17, li_18, li_19, li_20, li_21, li_22, li_23, li_24, li_25, li_26, li_27, li_28, li_29, li_30, li_31, li_32, li_33, li_34, li_35, li_36, li_37, li_38, li_39, li_40, li_41, li_42, li_43, li_44, li_45, li_46, li_47, li_48, li_49, li_50, li_51, li_52, li_53, li_54, li_55, li_56, li_57, li_58, li_59, li_60, li_61, li_62, li_63, li_64, li_74, li_86, li_87, li_88, li_96, li_97, li_98, li_99, li_100, li_101, li_102, li_103, li_104, li_105, li_107, li_108, li_109, li_110, li_111, li_112, li_114, li_115, li_116, li_117, li_118, li_121, li_122, li_124, li_136, li_148, li_160, li_680, li_200, li_201, li_255, li_700, li_950, li_1000, li_1400, li_3440, li_4096, li_9999, li_10000, li_20000, li_20033, li_20038, li_20124, li_32767, li_65535, li_1103515245, li_12345, li_m, sx_grd, sx_clamp, nI_add, sx_sub, pk_mul, sx_le, sx_lt, sx_eq, sx_eqm, sx_meq, sx_lem, sx_mle, sx_ltm, sx_mlt, sx_addm, sx_shl, sx_bit1, sx_bit0, fa_or, uA_s, uA_n, sA_s, sA_n, sx_uA, sx_uAn, sx_sAs, pk_us, pk_un, if_true, if_false, if_pos, if_neg, ob_some, Nat.add_zero, Nat.add_sub_cancel, eq_self, ne_eq, not_true, not_false_iff, false_or, true_or, or_false, or_true, false_and, true_and, and_false, and_true, f.1, fi.1, fi.2, e]
    refine RT.ite (fun d => hk _ ⟨_, rfl, Nat.or_lt_two_pow (Nat.or_lt_two_pow ml (pw _ (by omega))) (by omega), fun q hq => bool_eq ?_⟩) (fun d => RT.ite (fun d2 => hk _ ⟨_, rfl, Nat.or_lt_two_pow (Nat.or_lt_two_pow ml (by omega)) (pw _ (by omega)), fun q hq => bool_eq ?_⟩) (fun d2 => hk _ ⟨_, rfl, Nat.or_lt_two_pow (Nat.or_lt_two_pow ml (by omega)) (by omega), fun q hq => bool_eq ?_⟩))
    · rw [Nat.or_zero, Nat.testBit_or, Nat.testBit_two_pow, Bool.or_eq_true, mb q hq, adB_iff, adB_iff, decide_eq_true_eq]
      constructor
      · rintro (⟨k, k1, k2⟩ | z)
        · exact ⟨k, by omega, k2⟩
        · exact ⟨i, by omega, Or.inl ⟨d, z⟩⟩
      · rintro ⟨k, k1, k2⟩
        by_cases ki : k = i
        · subst ki; exact Or.inr (by omega)
        · exact Or.inl ⟨k, by omega, k2⟩
    · rw [Nat.or_zero, Nat.testBit_or, Nat.testBit_two_pow, Bool.or_eq_true, mb q hq, adB_iff, adB_iff, decide_eq_true_eq]
      constructor
      · rintro (⟨k, k1, k2⟩ | z)
        · exact ⟨k, by omega, k2⟩
        · exact ⟨i, by omega, Or.inr ⟨d2, z⟩⟩
      · rintro ⟨k, k1, k2⟩
        by_cases ki : k = i
        · subst ki; exact Or.inr (by omega)
        · exact Or.inl ⟨k, by omega, k2⟩
    · rw [Nat.or_zero, Nat.or_zero, mb q hq, adB_iff, adB_iff]
      constructor
      · rintro ⟨k, k1, k2⟩; exact ⟨k, by omega, k2⟩
      · rintro ⟨k, k1, k2⟩
        by_cases ki : k = i
        · subst ki; omega
        · exact ⟨k, by omega, k2⟩
/-! the fewest to be told -/
def cov (F : FD) (s : Nat) : Prop := ∀ k, k < F.1 → s.testBit (F.2.1 k) = true ∨ s.testBit (F.2.2 k) = true
def pcn (m : Nat) : Nat := fb_ct (fun i => m.testBit i) 13
def TLD (F : FD) (n b : Nat) : Prop := b < 2 ^ n ∧ cov F b ∧ ∀ s, s < 2 ^ n → cov F s → pcn b ≤ pcn s ∧ (s < b → pcn b < pcn s)
theorem TLD_one {F : FD} {n a b : Nat} (h : TLD F n a) (k : TLD F n b) : a = b := by
  have x := h.2.2 b k.1 k.2.1
  have y := k.2.2 a h.1 h.2.1
  omega
theorem pcn_le (m : Nat) : pcn m ≤ 13 := fb_ct_le _ _
theorem c_each {o : Ob} {F : FD} {n0 s : Nat} (f : FC o F) (fk : FOK F n0) (h12 : n0 ≤ 12) (hs : s < 2147483648) : RT (f_X3_eachHasOneOf o (nI s)) (fun r => (r = nI 1 ∧ cov F s) ∨ (r = nI 0 ∧ ¬ cov F s)) := by
  have f0 := fk.1
  refine RT.cps (fun Q hQ => ?_)
  unfold f_X3_eachHasOneOf
  refine RT.loop0 (fun n i (_ : Unit) => f_X3_eachHasOneOf_L2 (nI s) o n (nI i)) F.1 (fun i _ => ∀ k, k < i → s.testBit (F.2.1 k) = true ∨ s.testBit (F.2.2 k) = true) _ () (by omega) (fun k hk => absurd hk (Nat.not_lt_zero _)) ?_ ?_
  · intro n _ e
    show RT (f_X3_eachHasOneOf_L2 (nI s) o (n + 1) (nI F.1)) _
    unfold f_X3_eachHasOneOf_L2
    simp (disch := omega) only [bnd_nr, li_0, li_1, li_2, li_3, li_4, li_5, li_6, li_7, li_8, li_9, li_10, li_11, li_12, li_13, li_14, li_15, li_16, li_17, li_18, li_19, li_20, li_21, li_22, li_23, li_24, li_25, li_26, li_27, li_28, li_29, li_30, li_31, li_32, li_33, li_34, li_35, li_36, li_37, li_38, li_39, li_40, li_41, li_42, li_43, li_44, li_45, li_46, li_47, li_48, li_49, li_50, li_51, li_52, li_53, li_54, li_55, li_56, li_57, li_58, li_59, li_60, li_61, li_62, li_63, li_64, li_74, li_86, li_87, li_88, li_96, li_97, li_98, li_99, li_100, li_101, li_102, li_103, li_104, li_105, li_107, li_108, li_109, li_110, li_111, li_112, li_114, li_115, li_116, li_117, li_118, li_121, li_122, li_124, li_136, li_148, li_160, li_680, li_200, li_201, li_255, li_700, li_950, li_1000, li_1400, li_3440, li_4096, li_9999, li_10000, li_20000, li_20033, li_20038, li_20124, li_32767, li_65535, li_1103515245, li_12345, li_m, sx_grd, sx_clamp, nI_add, sx_sub, pk_mul, sx_le, sx_lt, sx_eq, sx_eqm, sx_meq, sx_lem, sx_mle, sx_ltm, sx_mlt, sx_addm, sx_shl, sx_bit1, sx_bit0, fa_or, uA_s, uA_n, sA_s, sA_n, sx_uA, sx_uAn, sx_sAs, pk_us, pk_un, if_true, if_false, if_pos, if_neg, ob_some, Nat.add_zero, Nat.add_sub_cancel, eq_self, ne_eq, not_true, not_false_iff, false_or, true_or, or_false, or_true, false_and, true_and, and_false, and_true, f.1]
    exact RT.done hQ (Or.inl ⟨rfl, e⟩)
  · intro n i _ hi e hk
    show RT (f_X3_eachHasOneOf_L2 (nI s) o (n + 1) (nI i)) _
    have fi := f.2 i hi
    have fb := fk.2 i hi
    unfold f_X3_eachHasOneOf_L2
    simp (disch := omega) only [bnd_nr, li_0, li_1, li_2, li_3, li_4, li_5, li_6, li_7, li_8, li_9, li_10, li_11, li_12, li_13, li_14, li_15, li_16, li_17, li_18, li_19, li_20, li_21, li_22, li_23, li_24, li_25, li_26, li_27, li_28, li_29, li_30, li_31, li_32, li_33, li_34, li_35, li_36, li_37, li_38, li_39, li_40, li_41, li_42, li_43, li_44, li_45, li_46, li_47, li_48, li_49, li_50, li_51, li_52, li_53, li_54, li_55, li_56, li_57, li_58, li_59, li_60, li_61, li_62, li_63, li_64, li_74, li_86, li_87, li_88, li_96, li_97, li_98, li_99, li_100, li_101, li_102, li_103, li_104, li_105, li_107, li_108, li_109, li_110, li_111, li_112, li_114, li_115, li_116, li_117, li_118, li_121, li_122, li_124, li_136, li_148, li_160, li_680, li_200, li_201, li_255, li_700, li_950, li_1000, li_1400, li_3440, li_4096, li_9999, li_10000, li_20000, li_20033, li_20038, li_20124, li_32767, li_65535, li_1103515245, li_12345, li_m, sx_grd, sx_clamp, nI_add, sx_sub, pk_mul, sx_le, sx_lt, sx_eq, sx_eqm, sx_meq, sx_lem, sx_mle, sx_ltm, sx_mlt, sx_addm, sx_shl, sx_bit1, sx_bit0, fa_or, uA_s, uA_n, sA_s, sA_n, sx_uA, sx_uAn, sx_sAs, pk_us, pk_un, if_true, if_false, if_pos, if_neg, ob_some, Nat.add_zero, Nat.add_sub_cancel, eq_self, ne_eq, not_true, not_false_iff, false_or, true_or, or_false, or_true, false_and, true_and, and_false, and_true, f.1, fi.1, fi.2]
    refine RT.ite (fun d => RT.ite (fun d2 => RT.done hQ (Or.inr ⟨rfl, fun z => ?_⟩)) (fun d2 => hk () (fun k hk9 => ?_))) (fun d => hk () (fun k hk9 => ?_))
    · rcases z i hi with y | y
      · rw [d] at y; cases y
      · rw [d2] at y; cases y
    · by_cases ki : k = i
      · subst ki; exact Or.inr (ts_nf d2)
      · exact e k (by omega)
    · by_cases ki : k = i
      · subst ki; exact Or.inl (ts_nf d)
      · exact e k (by omega)
theorem full_bits (n : Nat) : ∀ k, k < n → (2 ^ n - 1).testBit k = true := fun k hk => by rw [Nat.testBit_two_pow_sub_one]; exact decide_eq_true hk
theorem full_cov {F : FD} {n : Nat} (fk : FOK F n) : cov F (2 ^ n - 1) := fun k hk => Or.inl (full_bits n _ (fk.2 k hk).1)
theorem full_bc {n : Nat} (h : n ≤ 12) : pcn (2 ^ n - 1) = n := by
  unfold pcn
  obtain ⟨d, hd⟩ : ∃ d, 13 = n + d := ⟨13 - n, by omega⟩
  rw [hd, fb_ct_split]
  have a : fb_ct (fun i => (2 ^ n - 1).testBit i) n = n := fb_ct_all.mpr (full_bits n)
  have b : fb_ct (fun k => (2 ^ n - 1).testBit (n + k)) d = 0 := fb_ct_zero.mpr (fun k _ => by rw [Nat.testBit_two_pow_sub_one]; exact decide_eq_false (by omega))
  rw [a, b]; rfl
theorem pcn_max {n s : Nat} (h : n ≤ 12) (hs : s < 2 ^ n) : pcn s ≤ n ∧ (s < 2 ^ n - 1 → pcn s < n) := by
  unfold pcn
  obtain ⟨d, hd⟩ : ∃ d, 13 = n + d := ⟨13 - n, by omega⟩
  rw [hd, fb_ct_split]
  have b : fb_ct (fun k => s.testBit (n + k)) d = 0 := fb_ct_zero.mpr (fun k _ => Nat.testBit_lt_two_pow (Nat.lt_of_lt_of_le hs (Nat.pow_le_pow_right (by omega) (by omega))))
  rw [b, Nat.add_zero]
  have c := fb_ct_le (fun i => s.testBit i) n
  refine ⟨c, fun lt => ?_⟩
  rcases Nat.lt_or_ge (fb_ct (fun i => s.testBit i) n) n with z | z
  · exact z
  · exfalso
    have all := fb_ct_all.mp (show fb_ct (fun i => s.testBit i) n = n by omega)
    have : s = 2 ^ n - 1 := bit_ext (n := n) hs (by have := Nat.two_pow_pos n; omega) (fun i hi => by rw [full_bits n i hi]; exact all i hi)
    omega
theorem c_toTell {o : Ob} {F : FD} {n : Nat} (f : FC o F) (fk : FOK F n) (h12 : n ≤ 12) : RT (f_X3_toTell o (nI n)) (fun r => ∃ b, r = nI b ∧ TLD F n b) := by
  have f0 := fk.1
  have p1 := Nat.two_pow_pos n
  have p2 : 2 ^ n ≤ 2 ^ 12 := Nat.pow_le_pow_right (by omega) h12
  refine RT.cps (fun Q hQ => ?_)
  unfold f_X3_toTell
  simp (disch := omega) only [bnd_nr, li_0, li_1, li_2, li_3, li_4, li_5, li_6, li_7, li_8, li_9, li_10, li_11, li_12, li_13, li_14, li_15, li_16, li_17, li_18, li_19, li_20, li_21, li_22, li_23, li_24, li_25, li_26, li_27, li_28, li_29, li_30, li_31, li_32, li_33, li_34, li_35, li_36, li_37, li_38, li_39, li_40, li_41, li_42, li_43, li_44, li_45, li_46, li_47, li_48, li_49, li_50, li_51, li_52, li_53, li_54, li_55, li_56, li_57, li_58, li_59, li_60, li_61, li_62, li_63, li_64, li_74, li_86, li_87, li_88, li_96, li_97, li_98, li_99, li_100, li_101, li_102, li_103, li_104, li_105, li_107, li_108, li_109, li_110, li_111, li_112, li_114, li_115, li_116, li_117, li_118, li_121, li_122, li_124, li_136, li_148, li_160, li_680, li_200, li_201, li_255, li_700, li_950, li_1000, li_1400, li_3440, li_4096, li_9999, li_10000, li_20000, li_20033, li_20038, li_20124, li_32767, li_65535, li_1103515245, li_12345, li_m, sx_grd, sx_clamp, nI_add, sx_sub, pk_mul, sx_le, sx_lt, sx_eq, sx_eqm, sx_meq, sx_lem, sx_mle, sx_ltm, sx_mlt, sx_addm, sx_shl, sx_bit1, sx_bit0, fa_or, uA_s, uA_n, sA_s, sA_n, sx_uA, sx_uAn, sx_sAs, pk_us, pk_un, if_true, if_false, if_pos, if_neg, ob_some, Nat.add_zero, Nat.add_sub_cancel, eq_self, ne_eq, not_true, not_false_iff, false_or, true_or, or_false, or_true, false_and, true_and, and_false, and_true]
  refine RT.loop0_2 (fun m i (l2 l3 : Int32) => f_X3_toTell_L11 (nI n) o m l2 l3 (nI i)) (2 ^ n) (fun i l2 l3 => ∃ b, l2 = nI b ∧ l3 = nI (pcn b) ∧ b < 2 ^ n ∧ cov F b ∧ (∀ s, s < i → cov F s → pcn b ≤ pcn s ∧ (s < b → pcn b < pcn s)) ∧ (b < i ∨ b = 2 ^ n - 1)) _ _ _ (by omega) ⟨2 ^ n - 1, rfl, by rw [full_bc h12], by omega, full_cov fk, fun s hs => absurd hs (Nat.not_lt_zero _), Or.inr rfl⟩ ?_ ?_
  · intro m l2 l3 ⟨b, e1, e2, b1, b2, b3, b4⟩
    show RT (f_X3_toTell_L11 (nI n) o (m + 1) l2 l3 (nI (2 ^ n))) _
    unfold f_X3_toTell_L11
    simp (disch := omega) only [bnd_nr, li_0, li_1, li_2, li_3, li_4, li_5, li_6, li_7, li_8, li_9, li_10, li_11, li_12, li_13, li_14, li_15, li_16, li_17, li_18, li_19, li_20, li_21, li_22, li_23, li_24, li_25, li_26, li_27, li_28, li_29, li_30, li_31, li_32, li_33, li_34, li_35, li_36, li_37, li_38, li_39, li_40, li_41, li_42, li_43, li_44, li_45, li_46, li_47, li_48, li_49, li_50, li_51, li_52, li_53, li_54, li_55, li_56, li_57, li_58, li_59, li_60, li_61, li_62, li_63, li_64, li_74, li_86, li_87, li_88, li_96, li_97, li_98, li_99, li_100, li_101, li_102, li_103, li_104, li_105, li_107, li_108, li_109, li_110, li_111, li_112, li_114, li_115, li_116, li_117, li_118, li_121, li_122, li_124, li_136, li_148, li_160, li_680, li_200, li_201, li_255, li_700, li_950, li_1000, li_1400, li_3440, li_4096, li_9999, li_10000, li_20000, li_20033, li_20038, li_20124, li_32767, li_65535, li_1103515245, li_12345, li_m, sx_grd, sx_clamp, nI_add, sx_sub, pk_mul, sx_le, sx_lt, sx_eq, sx_eqm, sx_meq, sx_lem, sx_mle, sx_ltm, sx_mlt, sx_addm, sx_shl, sx_bit1, sx_bit0, fa_or, uA_s, uA_n, sA_s, sA_n, sx_uA, sx_uAn, sx_sAs, pk_us, pk_un, if_true, if_false, if_pos, if_neg, ob_some, Nat.add_zero, Nat.add_sub_cancel, eq_self, ne_eq, not_true, not_false_iff, false_or, true_or, or_false, or_true, false_and, true_and, and_false, and_true]
    exact RT.done hQ ⟨b, e1, b1, b2, b3⟩
  · intro m i l2 l3 hi ⟨b, e1, e2, b1, b2, b3, b4⟩ hk
    show RT (f_X3_toTell_L11 (nI n) o (m + 1) l2 l3 (nI i)) _
    have q1 := pcn_le i
    have q2 := pcn_le b
    have big : pcn i < pcn b → ¬ i < b → False ∨ True := fun _ _ => Or.inr trivial
    have mi := pcn_max h12 hi
    have jb : f_J6_bitCount_0f7a4 (nI i) = some (nI (pcn i)) := j_bitCount (by omega)
    unfold f_X3_toTell_L11
    simp (disch := omega) only [bnd_nr, li_0, li_1, li_2, li_3, li_4, li_5, li_6, li_7, li_8, li_9, li_10, li_11, li_12, li_13, li_14, li_15, li_16, li_17, li_18, li_19, li_20, li_21, li_22, li_23, li_24, li_25, li_26, li_27, li_28, li_29, li_30, li_31, li_32, li_33, li_34, li_35, li_36, li_37, li_38, li_39, li_40, li_41, li_42, li_43, li_44, li_45, li_46, li_47, li_48, li_49, li_50, li_51, li_52, li_53, li_54, li_55, li_56, li_57, li_58, li_59, li_60, li_61, li_62, li_63, li_64, li_74, li_86, li_87, li_88, li_96, li_97, li_98, li_99, li_100, li_101, li_102, li_103, li_104, li_105, li_107, li_108, li_109, li_110, li_111, li_112, li_114, li_115, li_116, li_117, li_118, li_121, li_122, li_124, li_136, li_148, li_160, li_680, li_200, li_201, li_255, li_700, li_950, li_1000, li_1400, li_3440, li_4096, li_9999, li_10000, li_20000, li_20033, li_20038, li_20124, li_32767, li_65535, li_1103515245, li_12345, li_m, sx_grd, sx_clamp, nI_add, sx_sub, pk_mul, sx_le, sx_lt, sx_eq, sx_eqm, sx_meq, sx_lem, sx_mle, sx_ltm, sx_mlt, sx_addm, sx_shl, sx_bit1, sx_bit0, fa_or, uA_s, uA_n, sA_s, sA_n, sx_uA, sx_uAn, sx_sAs, pk_us, pk_un, if_true, if_false, if_pos, if_neg, ob_some, Nat.add_zero, Nat.add_sub_cancel, eq_self, ne_eq, not_true, not_false_iff, false_or, true_or, or_false, or_true, false_and, true_and, and_false, and_true, jb, e1, e2]
    refine RT.ite (fun d => hk _ _ ⟨b, rfl, rfl, b1, b2, fun s hs cs => ?_, ?_⟩) (fun d => ?_)
    · by_cases si : s = i
      · subst si
        refine ⟨d, fun lt => ?_⟩
        rcases b4 with z | z
        · omega
        · subst z
          have := mi.2 (by omega)
          rw [full_bc h12] at d ⊢
          omega
      · exact b3 s (by omega) cs
    · rcases b4 with z | z
      · exact Or.inl (by omega)
      · exact Or.inr z
    · refine RT.bind (c_each f fk h12 (show i < 2147483648 by omega)) (fun q hq => ?_)
      rcases hq with ⟨z1, z2⟩ | ⟨z1, z2⟩
      · subst z1
        simp (disch := omega) only [bnd_nr, li_0, li_1, li_2, li_3, li_4, li_5, li_6, li_7, li_8, li_9, li_10, li_11, li_12, li_13, li_14, li_15, li_16, li_17, li_18, li_19, li_20, li_21, li_22, li_23, li_24, li_25, li_26, li_27, li_28, li_29, li_30, li_31, li_32, li_33, li_34, li_35, li_36, li_37, li_38, li_39, li_40, li_41, li_42, li_43, li_44, li_45, li_46, li_47, li_48, li_49, li_50, li_51, li_52, li_53, li_54, li_55, li_56, li_57, li_58, li_59, li_60, li_61, li_62, li_63, li_64, li_74, li_86, li_87, li_88, li_96, li_97, li_98, li_99, li_100, li_101, li_102, li_103, li_104, li_105, li_107, li_108, li_109, li_110, li_111, li_112, li_114, li_115, li_116, li_117, li_118, li_121, li_122, li_124, li_136, li_148, li_160, li_680, li_200, li_201, li_255, li_700, li_950, li_1000, li_1400, li_3440, li_4096, li_9999, li_10000, li_20000, li_20033, li_20038, li_20124, li_32767, li_65535, li_1103515245, li_12345, li_m, sx_grd, sx_clamp, nI_add, sx_sub, pk_mul, sx_le, sx_lt, sx_eq, sx_eqm, sx_meq, sx_lem, sx_mle, sx_ltm, sx_mlt, sx_addm, sx_shl, sx_bit1, sx_bit0, fa_or, uA_s, uA_n, sA_s, sA_n, sx_uA, sx_uAn, sx_sAs, pk_us, pk_un, if_true, if_false, if_pos, if_neg, ob_some, Nat.add_zero, Nat.add_sub_cancel, eq_self, ne_eq, not_true, not_false_iff, false_or, true_or, or_false, or_true, false_and, true_and, and_false, and_true, jb]
        refine hk _ _ ⟨i, rfl, rfl, hi, z2, fun s hs cs => ?_, Or.inl (by omega)⟩
        by_cases si : s = i
        · subst si; omega
        · have := b3 s (by omega) cs
          omega
      · subst z1
        simp (disch := omega) only [bnd_nr, li_0, li_1, li_2, li_3, li_4, li_5, li_6, li_7, li_8, li_9, li_10, li_11, li_12, li_13, li_14, li_15, li_16, li_17, li_18, li_19, li_20, li_21, li_22, li_23, li_24, li_25, li_26, li_27, li_28, li_29, li_30, li_31, li_32, li_33, li_34, li_35, li_36, li_37, li_38, li_39, li_40, li_41, li_42, li_43, li_44, li_45, li_46, li_47, li_48, li_49, li_50, li_51, li_52, li_53, li_54, li_55, li_56, li_57, li_58, li_59, li_60, li_61, li_62, li_63, li_64, li_74, li_86, li_87, li_88, li_96, li_97, li_98, li_99, li_100, li_101, li_102, li_103, li_104, li_105, li_107, li_108, li_109, li_110, li_111, li_112, li_114, li_115, li_116, li_117, li_118, li_121, li_122, li_124, li_136, li_148, li_160, li_680, li_200, li_201, li_255, li_700, li_950, li_1000, li_1400, li_3440, li_4096, li_9999, li_10000, li_20000, li_20033, li_20038, li_20124, li_32767, li_65535, li_1103515245, li_12345, li_m, sx_grd, sx_clamp, nI_add, sx_sub, pk_mul, sx_le, sx_lt, sx_eq, sx_eqm, sx_meq, sx_lem, sx_mle, sx_ltm, sx_mlt, sx_addm, sx_shl, sx_bit1, sx_bit0, fa_or, uA_s, uA_n, sA_s, sA_n, sx_uA, sx_uAn, sx_sAs, pk_us, pk_un, if_true, if_false, if_pos, if_neg, ob_some, Nat.add_zero, Nat.add_sub_cancel, eq_self, ne_eq, not_true, not_false_iff, false_or, true_or, or_false, or_true, false_and, true_and, and_false, and_true]
        refine hk _ _ ⟨b, rfl, rfl, b1, b2, fun s hs cs => ?_, ?_⟩
        · by_cases si : s = i
          · subst si; exact absurd cs z2
          · exact b3 s (by omega) cs
        · rcases b4 with z | z
          · exact Or.inl (by omega)
          · exact Or.inr z
theorem m_toldOnes {M : MS} {F : FD} {n : Nat} (f : FM M F) (fk : FOK F n) (h12 : n ≤ 12) (hn : M.1 1 = nI n) : RT (f_X12_toldOnes M) (fun r => ∃ b, r = nI b ∧ TLD F n b) := by
  have f0 := fk.1
  have p1 := Nat.two_pow_pos n
  have p2 : 2 ^ n ≤ 2 ^ 12 := Nat.pow_le_pow_right (by omega) h12
  refine RT.cps (fun Q hQ => ?_)
  unfold f_X12_toldOnes
  refine RT.loop0 (fun m i (l1 : Int32) => f_X12_toldOnes_L4 M m l1 (nI i)) (2 ^ n) (fun i l1 => (l1 = mO ∧ ∀ s, s < i → ¬ cov F s) ∨ ∃ b, l1 = nI b ∧ b < i ∧ cov F b ∧ ∀ s, s < i → cov F s → pcn b ≤ pcn s ∧ (s < b → pcn b < pcn s)) _ _ (by omega) (Or.inl ⟨rfl, fun s hs => absurd hs (Nat.not_lt_zero _)⟩) ?_ ?_
  · intro m l1 h
    show RT (f_X12_toldOnes_L4 M (m + 1) l1 (nI (2 ^ n))) _
    unfold f_X12_toldOnes_L4
    simp (disch := omega) only [bnd_nr, li_0, li_1, li_2, li_3, li_4, li_5, li_6, li_7, li_8, li_9, li_10, li_11, li_12, li_13, li_14, li_15, li_16, li_17, li_18, li_19, li_20, li_21, li_22, li_23, li_24, li_25, li_26, li_27, li_28, li_29, li_30, li_31, li_32, li_33, li_34, li_35, li_36, li_37, li_38, li_39, li_40, li_41, li_42, li_43, li_44, li_45, li_46, li_47, li_48, li_49, li_50, li_51, li_52, li_53, li_54, li_55, li_56, li_57, li_58, li_59, li_60, li_61, li_62, li_63, li_64, li_74, li_86, li_87, li_88, li_96, li_97, li_98, li_99, li_100, li_101, li_102, li_103, li_104, li_105, li_107, li_108, li_109, li_110, li_111, li_112, li_114, li_115, li_116, li_117, li_118, li_121, li_122, li_124, li_136, li_148, li_160, li_680, li_200, li_201, li_255, li_700, li_950, li_1000, li_1400, li_3440, li_4096, li_9999, li_10000, li_20000, li_20033, li_20038, li_20124, li_32767, li_65535, li_1103515245, li_12345, li_m, sx_grd, sx_clamp, nI_add, sx_sub, pk_mul, sx_le, sx_lt, sx_eq, sx_eqm, sx_meq, sx_lem, sx_mle, sx_ltm, sx_mlt, sx_addm, sx_shl, sx_bit1, sx_bit0, fa_or, uA_s, uA_n, sA_s, sA_n, sx_uA, sx_uAn, sx_sAs, pk_us, pk_un, if_true, if_false, if_pos, if_neg, ob_some, Nat.add_zero, Nat.add_sub_cancel, eq_self, ne_eq, not_true, not_false_iff, false_or, true_or, or_false, or_true, false_and, true_and, and_false, and_true, hn]
    refine RT.done hQ ?_
    rcases h with ⟨e, no⟩ | ⟨b, e, b1, b2, b3⟩
    · exact absurd (full_cov fk) (no (2 ^ n - 1) (by omega))
    · exact ⟨b, e, b1, b2, b3⟩
  · intro m i l1 hi h hk
    show RT (f_X12_toldOnes_L4 M (m + 1) l1 (nI i)) _
    have q1 := pcn_le i
    have inner : (∀ s, s < i → cov F s → pcn i < pcn s) → (l1 = mO ∨ ∃ b, l1 = nI b ∧ pcn i < pcn b ∧ b < i) → RT (f_X12_toldOnes_L38 (f_X12_toldOnes_L4 M m) l1 (nI i) M FUEL (nI 1) (nI 0)) Q := by
      intro less lb
      refine RT.loop0 (fun m2 k (l3 : Int32) => f_X12_toldOnes_L38 (f_X12_toldOnes_L4 M m) l1 (nI i) M m2 l3 (nI k)) F.1 (fun k l3 => (l3 = nI 1 ∧ ∀ j, j < k → i.testBit (F.2.1 j) = true ∨ i.testBit (F.2.2 j) = true) ∨ (l3 = nI 0 ∧ ¬ cov F i)) _ _ (by omega) (Or.inl ⟨rfl, fun j hj => absurd hj (Nat.not_lt_zero _)⟩) ?_ ?_
      · intro m2 l3 g
        show RT (f_X12_toldOnes_L38 (f_X12_toldOnes_L4 M m) l1 (nI i) M (m2 + 1) l3 (nI F.1)) _
        unfold f_X12_toldOnes_L38 f_X12_toldOnes_J99
        rcases g with ⟨g1, g2⟩ | ⟨g1, g2⟩
        · subst g1
          simp (disch := omega) only [bnd_nr, li_0, li_1, li_2, li_3, li_4, li_5, li_6, li_7, li_8, li_9, li_10, li_11, li_12, li_13, li_14, li_15, li_16, li_17, li_18, li_19, li_20, li_21, li_22, li_23, li_24, li_25, li_26, li_27, li_28, li_29, li_30, li_31, li_32, li_33, li_34, li_35, li_36, li_37, li_38, li_39, li_40, li_41, li_42, li_43, li_44, li_45, li_46, li_47, li_48, li_49, li_50, li_51, li_52, li_53, li_54, li_55, li_56, li_57, li_58, li_59, li_60, li_61, li_62, li_63, li_64, li_74, li_86, li_87, li_88, li_96, li_97, li_98, li_99, li_100, li_101, li_102, li_103, li_104, li_105, li_107, li_108, li_109, li_110, li_111, li_112, li_114, li_115, li_116, li_117, li_118, li_121, li_122, li_124, li_136, li_148, li_160, li_680, li_200, li_201, li_255, li_700, li_950, li_1000, li_1400, li_3440, li_4096, li_9999, li_10000, li_20000, li_20033, li_20038, li_20124, li_32767, li_65535, li_1103515245, li_12345, li_m, sx_grd, sx_clamp, nI_add, sx_sub, pk_mul, sx_le, sx_lt, sx_eq, sx_eqm, sx_meq, sx_lem, sx_mle, sx_ltm, sx_mlt, sx_addm, sx_shl, sx_bit1, sx_bit0, fa_or, uA_s, uA_n, sA_s, sA_n, sx_uA, sx_uAn, sx_sAs, pk_us, pk_un, if_true, if_false, if_pos, if_neg, ob_some, Nat.add_zero, Nat.add_sub_cancel, eq_self, ne_eq, not_true, not_false_iff, false_or, true_or, or_false, or_true, false_and, true_and, and_false, and_true, f.1]
          refine hk _ (Or.inr ⟨i, rfl, by omega, g2, fun s hs cs => ?_⟩)
          by_cases si : s = i
          · subst si; omega
          · have := less s (by omega) cs; omega
        · subst g1
          simp (disch := omega) only [bnd_nr, li_0, li_1, li_2, li_3, li_4, li_5, li_6, li_7, li_8, li_9, li_10, li_11, li_12, li_13, li_14, li_15, li_16, li_17, li_18, li_19, li_20, li_21, li_22, li_23, li_24, li_25, li_26, li_27, li_28, li_29, li_30, li_31, li_32, li_33, li_34, li_35, li_36, li_37, li_38, li_39, li_40, li_41, li_42, li_43, li_44, li_45, li_46, li_47, li_48, li_49, li_50, li_51, li_52, li_53, li_54, li_55, li_56, li_57, li_58, li_59, li_60, li_61, li_62, li_63, li_64, li_74, li_86, li_87, li_88, li_96, li_97, li_98, li_99, li_100, li_101, li_102, li_103, li_104, li_105, li_107, li_108, li_109, li_110, li_111, li_112, li_114, li_115, li_116, li_117, li_118, li_121, li_122, li_124, li_136, li_148, li_160, li_680, li_200, li_201, li_255, li_700, li_950, li_1000, li_1400, li_3440, li_4096, li_9999, li_10000, li_20000, li_20033, li_20038, li_20124, li_32767, li_65535, li_1103515245, li_12345, li_m, sx_grd, sx_clamp, nI_add, sx_sub, pk_mul, sx_le, sx_lt, sx_eq, sx_eqm, sx_meq, sx_lem, sx_mle, sx_ltm, sx_mlt, sx_addm, sx_shl, sx_bit1, sx_bit0, fa_or, uA_s, uA_n, sA_s, sA_n, sx_uA, sx_uAn, sx_sAs, pk_us, pk_un, if_true, if_false, if_pos, if_neg, ob_some, Nat.add_zero, Nat.add_sub_cancel, eq_self, ne_eq, not_true, not_false_iff, false_or, true_or, or_false, or_true, false_and, true_and, and_false, and_true, f.1]
          refine hk _ ?_
          rcases h with ⟨e, no⟩ | ⟨b, e, b1, b2, b3⟩
          · refine Or.inl ⟨e, fun s hs => ?_⟩
            by_cases si : s = i
            · subst si; exact g2
            · exact no s (by omega)
          · refine Or.inr ⟨b, e, by omega, b2, fun s hs cs => ?_⟩
            by_cases si : s = i
            · subst si; exact absurd cs g2
            · exact b3 s (by omega) cs
      · intro m2 k l3 hk9 g hk2
        show RT (f_X12_toldOnes_L38 (f_X12_toldOnes_L4 M m) l1 (nI i) M (m2 + 1) l3 (nI k)) _
        have fi := f.2 k hk9
        have fb := fk.2 k hk9
        unfold f_X12_toldOnes_L38
        rcases g with ⟨g1, g2⟩ | ⟨g1, g2⟩
        · subst g1
          simp (disch := omega) only [bnd_nr, li_0, li_1, li_2, li_3, li_4, li_5, li_6, li_7, li_8, li_9, li_10, li_11, li_12, li_13, li_14, li_15, li_16, li_17, li_18, li_19, li_20, li_21, li_22, li_23, li_24, li_25, li_26, li_27, li_28, li_29, li_30, li_31, li_32, li_33, li_34, li_35, li_36, li_37, li_38, li_39, li_40, li_41, li_42, li_43, li_44, li_45, li_46, li_47, li_48, li_49, li_50, li_51, li_52, li_53, li_54, li_55, li_56, li_57, li_58, li_59, li_60, li_61, li_62, li_63, li_64, li_74, li_86, li_87, li_88, li_96, li_97, li_98, li_99, li_100, li_101, li_102, li_103, li_104, li_105, li_107, li_108, li_109, li_110, li_111, li_112, li_114, li_115, li_116, li_117, li_118, li_121, li_122, li_124, li_136, li_148, li_160, li_680, li_200, li_201, li_255, li_700, li_950, li_1000, li_1400, li_3440, li_4096, li_9999, li_10000, li_20000, li_20033, li_20038, li_20124, li_32767, li_65535, li_1103515245, li_12345, li_m, sx_grd, sx_clamp, nI_add, sx_sub, pk_mul, sx_le, sx_lt, sx_eq, sx_eqm, sx_meq, sx_lem, sx_mle, sx_ltm, sx_mlt, sx_addm, sx_shl, sx_bit1, sx_bit0, fa_or, uA_s, uA_n, sA_s, sA_n, sx_uA, sx_uAn, sx_sAs, pk_us, pk_un, if_true, if_false, if_pos, if_neg, ob_some, Nat.add_zero, Nat.add_sub_cancel, eq_self, ne_eq, not_true, not_false_iff, false_or, true_or, or_false, or_true, false_and, true_and, and_false, and_true, f.1, fi.1, fi.2]
          refine RT.ite (fun d => hk2 _ (Or.inl ⟨rfl, fun j hj => ?_⟩)) (fun d => RT.ite (fun d2 => hk2 _ (Or.inl ⟨rfl, fun j hj => ?_⟩)) (fun d2 => hk2 _ (Or.inr ⟨rfl, fun z => ?_⟩)))
          · by_cases jk : j = k
            · subst jk; exact Or.inl d
            · exact g2 j (by omega)
          · by_cases jk : j = k
            · subst jk; exact Or.inr d2
            · exact g2 j (by omega)
          · rcases z k hk9 with y | y
            · exact d y
            · exact d2 y
        · subst g1
          unfold f_X12_toldOnes_J99
          simp (disch := omega) only [bnd_nr, li_0, li_1, li_2, li_3, li_4, li_5, li_6, li_7, li_8, li_9, li_10, li_11, li_12, li_13, li_14, li_15, li_16, li_17, li_18, li_19, li_20, li_21, li_22, li_23, li_24, li_25, li_26, li_27, li_28, li_29, li_30, li_31, li_32, li_33, li_34, li_35, li_36, li_37, li_38, li_39, li_40, li_41, li_42, li_43, li_44, li_45, li_46, li_47, li_48, li_49, li_50, li_51, li_52, li_53, li_54, li_55, li_56, li_57, li_58, li_59, li_60, li_61, li_62, li_63, li_64, li_74, li_86, li_87, li_88, li_96, li_97, li_98, li_99, li_100, li_101, li_102, li_103, li_104, li_105, li_107, li_108, li_109, li_110, li_111, li_112, li_114, li_115, li_116, li_117, li_118, li_121, li_122, li_124, li_136, li_148, li_160, li_680, li_200, li_201, li_255, li_700, li_950, li_1000, li_1400, li_3440, li_4096, li_9999, li_10000, li_20000, li_20033, li_20038, li_20124, li_32767, li_65535, li_1103515245, li_12345, li_m, sx_grd, sx_clamp, nI_add, sx_sub, pk_mul, sx_le, sx_lt, sx_eq, sx_eqm, sx_meq, sx_lem, sx_mle, sx_ltm, sx_mlt, sx_addm, sx_shl, sx_bit1, sx_bit0, fa_or, uA_s, uA_n, sA_s, sA_n, sx_uA, sx_uAn, sx_sAs, pk_us, pk_un, if_true, if_false, if_pos, if_neg, ob_some, Nat.add_zero, Nat.add_sub_cancel, eq_self, ne_eq, not_true, not_false_iff, false_or, true_or, or_false, or_true, false_and, true_and, and_false, and_true, f.1]
          refine hk _ ?_
          rcases h with ⟨e, no⟩ | ⟨b, e, b1, b2, b3⟩
          · refine Or.inl ⟨e, fun s hs => ?_⟩
            by_cases si : s = i
            · subst si; exact g2
            · exact no s (by omega)
          · refine Or.inr ⟨b, e, by omega, b2, fun s hs cs => ?_⟩
            by_cases si : s = i
            · subst si; exact absurd cs g2
            · exact b3 s (by omega) cs
    unfold f_X12_toldOnes_L4
    rcases h with ⟨e, no⟩ | ⟨b, e, b1, b2, b3⟩
    · subst e
      simp (disch := omega) only [bnd_nr, li_0, li_1, li_2, li_3, li_4, li_5, li_6, li_7, li_8, li_9, li_10, li_11, li_12, li_13, li_14, li_15, li_16, li_17, li_18, li_19, li_20, li_21, li_22, li_23, li_24, li_25, li_26, li_27, li_28, li_29, li_30, li_31, li_32, li_33, li_34, li_35, li_36, li_37, li_38, li_39, li_40, li_41, li_42, li_43, li_44, li_45, li_46, li_47, li_48, li_49, li_50, li_51, li_52, li_53, li_54, li_55, li_56, li_57, li_58, li_59, li_60, li_61, li_62, li_63, li_64, li_74, li_86, li_87, li_88, li_96, li_97, li_98, li_99, li_100, li_101, li_102, li_103, li_104, li_105, li_107, li_108, li_109, li_110, li_111, li_112, li_114, li_115, li_116, li_117, li_118, li_121, li_122, li_124, li_136, li_148, li_160, li_680, li_200, li_201, li_255, li_700, li_950, li_1000, li_1400, li_3440, li_4096, li_9999, li_10000, li_20000, li_20033, li_20038, li_20124, li_32767, li_65535, li_1103515245, li_12345, li_m, sx_grd, sx_clamp, nI_add, sx_sub, pk_mul, sx_le, sx_lt, sx_eq, sx_eqm, sx_meq, sx_lem, sx_mle, sx_ltm, sx_mlt, sx_addm, sx_shl, sx_bit1, sx_bit0, fa_or, uA_s, uA_n, sA_s, sA_n, sx_uA, sx_uAn, sx_sAs, pk_us, pk_un, if_true, if_false, if_pos, if_neg, ob_some, Nat.add_zero, Nat.add_sub_cancel, eq_self, ne_eq, not_true, not_false_iff, false_or, true_or, or_false, or_true, false_and, true_and, and_false, and_true, hn]
      exact inner (fun s hs cs => absurd cs (no s hs)) (Or.inl rfl)
    · subst e
      have q2 := pcn_le b
      have g1 : f_X12_bits (nI i) = some (nI (pcn i)) := g_bits (by omega)
      have g2 : f_X12_bits (nI b) = some (nI (pcn b)) := g_bits (by omega)
      simp (disch := omega) only [bnd_nr, li_0, li_1, li_2, li_3, li_4, li_5, li_6, li_7, li_8, li_9, li_10, li_11, li_12, li_13, li_14, li_15, li_16, li_17, li_18, li_19, li_20, li_21, li_22, li_23, li_24, li_25, li_26, li_27, li_28, li_29, li_30, li_31, li_32, li_33, li_34, li_35, li_36, li_37, li_38, li_39, li_40, li_41, li_42, li_43, li_44, li_45, li_46, li_47, li_48, li_49, li_50, li_51, li_52, li_53, li_54, li_55, li_56, li_57, li_58, li_59, li_60, li_61, li_62, li_63, li_64, li_74, li_86, li_87, li_88, li_96, li_97, li_98, li_99, li_100, li_101, li_102, li_103, li_104, li_105, li_107, li_108, li_109, li_110, li_111, li_112, li_114, li_115, li_116, li_117, li_118, li_121, li_122, li_124, li_136, li_148, li_160, li_680, li_200, li_201, li_255, li_700, li_950, li_1000, li_1400, li_3440, li_4096, li_9999, li_10000, li_20000, li_20033, li_20038, li_20124, li_32767, li_65535, li_1103515245, li_12345, li_m, sx_grd, sx_clamp, nI_add, sx_sub, pk_mul, sx_le, sx_lt, sx_eq, sx_eqm, sx_meq, sx_lem, sx_mle, sx_ltm, sx_mlt, sx_addm, sx_shl, sx_bit1, sx_bit0, fa_or, uA_s, uA_n, sA_s, sA_n, sx_uA, sx_uAn, sx_sAs, pk_us, pk_un, if_true, if_false, if_pos, if_neg, ob_some, Nat.add_zero, Nat.add_sub_cancel, eq_self, ne_eq, not_true, not_false_iff, false_or, true_or, or_false, or_true, false_and, true_and, and_false, and_true, hn, g1, g2]
      refine RT.ite (fun d => inner (fun s hs cs => ?_) (Or.inr ⟨b, rfl, d, b1⟩)) (fun d => hk _ (Or.inr ⟨b, rfl, by omega, b2, fun s hs cs => ?_⟩))
      · have := (b3 s hs cs).1; omega
      · by_cases si : s = i
        · subst si; omega
        · exact b3 s (by omega) cs
