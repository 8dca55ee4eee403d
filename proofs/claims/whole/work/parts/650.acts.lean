/-! acts on both sides -/
theorem cup_lv {H P : Nat → Int32} {V : VT} (w : WFP V) (hH : ∀ p, p < vn V → H p = nI (ho V p)) (hP : ∀ p, p < vn V → P p = nI (pl V p)) {p q : Nat} (hp : p < vn V) (hq : q < vn V) : cup H P p q = nI (lv V p q) := by
  have b0 := w.1
  have b1 := w.2.1 p hp
  have b2 := w.2.1 q hq
  have s1 := sz_le V (ho V p)
  have s2 := sz_le V (ho V q)
  unfold cup lv
  rw [hH p hp, hH q hq, hP p hp, hP q hq]
  simp (disch := omega) only [sx_eq, sx_le]
  by_cases c : ho V q = ho V p
  · by_cases d : pl V p < pl V q
    · rw [if_pos ⟨c, by omega⟩, if_pos ⟨c, d⟩, li_1, sx_sub (by omega)]
    · rw [if_neg (fun z => d (by omega)), if_neg (fun z => d z.2)]
  · rw [if_neg (fun z => c z.1), if_neg (fun z => c z.1)]
theorem c_moveTo {v : Ob} {V : VT} (c : VC v V) (w : WFV V) {p h : Nat} (hp : p < vn V) (hh : h < vh V) (hn : ho V p ≠ h) : RT (f_X10_moveTo v (nI p) (nI h)) (fun r => VC r (dropV (mvV V p h))) := by
  refine RT.cps (fun Q hQ => ?_)
  have wp := w.1
  have b0 := wp.1
  have b1 := wp.2.1 p hp
  have vh_ := c.h
  have vp_ := c.p
  obtain ⟨I, A⟩ := v
  obtain ⟨⟨v1, v2, v3⟩, v4, v5⟩ := c
  have v1 : I 0 = nI (vn V) := v1
  have v2 : I 1 = nI (vh V) := v2
  have v3 : I 2 = nI (ve V) := v3
  unfold f_X10_moveTo
  rw [c_leave v1 wp.1.1 hp (vh_ p hp) (by omega), Option.bind_some, c_enter (by omega) (by omega), Option.bind_some]
  refine RT.bind (c_drop (U := mvV V p h) ⟨⟨v1, v2, v3⟩, fun q hq => ?_, fun k hk => ?_⟩ (WFP_mv w hp hh hn)) (fun q hq => RT.done hQ hq)
  · have hq : q < vn V := hq
    simp (disch := omega) only [bnd_nr, li_0, li_1, li_2, li_3, li_4, li_5, li_6, li_7, li_8, li_9, li_10, li_11, li_12, li_13, li_14, li_15, li_16, li_17, li_18, li_19, li_20, li_21, li_22, li_23, li_24, li_25, li_26, li_27, li_28, li_29, li_30, li_31, li_32, li_33, li_34, li_35, li_36, li_37, li_38, li_39, li_40, li_41, li_42, li_43, li_44, li_45, li_46, li_47, li_48, li_49, li_50, li_51, li_52, li_53, li_54, li_55, li_56, li_57, li_58, li_59, li_60, li_61, li_62, li_63, li_64, li_74, li_86, li_87, li_88, li_96, li_97, li_98, li_99, li_100, li_101, li_102, li_103, li_104, li_105, li_107, li_108, li_109, li_110, li_111, li_112, li_114, li_115, li_116, li_117, li_118, li_121, li_122, li_124, li_136, li_148, li_160, li_680, li_200, li_201, li_255, li_700, li_950, li_1000, li_1400, li_3440, li_4096, li_9999, li_10000, li_20000, li_20033, li_20038, li_20124, li_32767, li_65535, li_1103515245, li_12345, li_m, sx_grd, sx_clamp, nI_add, sx_sub, pk_mul, sx_le, sx_lt, sx_eq, sx_eqm, sx_meq, sx_lem, sx_mle, sx_ltm, sx_mlt, sx_addm, sx_shl, sx_bit1, sx_bit0, fa_or, uA_s, uA_n, sA_s, sA_n, sx_uA, sx_uAn, sx_sAs, pk_us, pk_un, if_true, if_false, if_pos, if_neg, ob_some, Nat.add_zero, Nat.add_sub_cancel, eq_self, ne_eq, not_true, not_false_iff, false_or, true_or, or_false, or_true, false_and, true_and, and_false, and_true, show A 6 h = nI (sz V h) from (v5 h hh).1, v3]
    show A 1 q = nI (rk V q) ∧ _ = nI (if q = p then h else ho V q) ∧ _ = nI (if q = p then sz V h else lv V p q) ∧ _ = nI (ve V - (if q = p then 0 else si V q)) ∧ A 5 q = mv V q
    by_cases d : q = p
    · subst d
      rw [pk_us, pk_us, pk_us, if_pos rfl, if_pos rfl, if_pos rfl]
      exact ⟨(v4 q hq).1, rfl, rfl, rfl, (v4 q hq).2.2.2.2⟩
    · rw [pk_un d, pk_un d, pk_un d, if_neg d, if_neg d, if_neg d, fa_fill_in hq, cup_lv wp vh_ vp_ hp hq]
      exact ⟨(v4 q hq).1, (v4 q hq).2.1, rfl, (v4 q hq).2.2.2.1, (v4 q hq).2.2.2.2⟩
  · have hk : k < vh V := hk
    simp (disch := omega) only [bnd_nr, li_0, li_1, li_2, li_3, li_4, li_5, li_6, li_7, li_8, li_9, li_10, li_11, li_12, li_13, li_14, li_15, li_16, li_17, li_18, li_19, li_20, li_21, li_22, li_23, li_24, li_25, li_26, li_27, li_28, li_29, li_30, li_31, li_32, li_33, li_34, li_35, li_36, li_37, li_38, li_39, li_40, li_41, li_42, li_43, li_44, li_45, li_46, li_47, li_48, li_49, li_50, li_51, li_52, li_53, li_54, li_55, li_56, li_57, li_58, li_59, li_60, li_61, li_62, li_63, li_64, li_74, li_86, li_87, li_88, li_96, li_97, li_98, li_99, li_100, li_101, li_102, li_103, li_104, li_105, li_107, li_108, li_109, li_110, li_111, li_112, li_114, li_115, li_116, li_117, li_118, li_121, li_122, li_124, li_136, li_148, li_160, li_680, li_200, li_201, li_255, li_700, li_950, li_1000, li_1400, li_3440, li_4096, li_9999, li_10000, li_20000, li_20033, li_20038, li_20124, li_32767, li_65535, li_1103515245, li_12345, li_m, sx_grd, sx_clamp, nI_add, sx_sub, pk_mul, sx_le, sx_lt, sx_eq, sx_eqm, sx_meq, sx_lem, sx_mle, sx_ltm, sx_mlt, sx_addm, sx_shl, sx_bit1, sx_bit0, fa_or, uA_s, uA_n, sA_s, sA_n, sx_uA, sx_uAn, sx_sAs, pk_us, pk_un, if_true, if_false, if_pos, if_neg, ob_some, Nat.add_zero, Nat.add_sub_cancel, eq_self, ne_eq, not_true, not_false_iff, false_or, true_or, or_false, or_true, false_and, true_and, and_false, and_true, show A 6 h = nI (sz V h) from (v5 h hh).1, show A 6 (ho V p) = nI (sz V (ho V p)) from (v5 _ b1.1).1]
    refine ⟨?_, (v5 k hk).2⟩
    have e := sz_mv (V := V) (h := h) hp k
    have sp := sz_pos (V := V) hp
    by_cases d : k = h
    · subst d
      rw [if_neg hn, if_pos rfl] at e
      rw [pk_us]; exact congrArg nI (by omega)
    · rw [pk_un d]
      by_cases d2 : k = ho V p
      · subst d2
        rw [if_pos rfl, if_neg (fun z => d z.symm)] at e
        rw [pk_us]; exact congrArg nI (by omega)
      · rw [if_neg (fun z => d2 z.symm), if_neg (fun z => d z.symm)] at e
        rw [pk_un d2]
        exact (v5 k hk).1.trans (congrArg nI (by omega))
theorem c_foundBy {v : Ob} {V : VT} (c : VC v V) (w : WFV V) {p : Nat} (hp : p < vn V) (hn : sz V (ho V p) ≠ 1) : RT (f_X10_foundBy v (nI p)) (fun r => VC r (fdV V p)) := by
  refine RT.cps (fun Q hQ => ?_)
  have wp := w.1
  have b0 := wp.1
  have b1 := wp.2.1 p hp
  have hhn := w.hn
  have vh_ := c.h
  have vp_ := c.p
  obtain ⟨I, A⟩ := v
  obtain ⟨⟨v1, v2, v3⟩, v4, v5⟩ := c
  have v1 : I 0 = nI (vn V) := v1
  have v2 : I 1 = nI (vh V) := v2
  have v3 : I 2 = nI (ve V) := v3
  unfold f_X10_foundBy
  rw [c_leave v1 wp.1.1 hp (vh_ p hp) (by omega), Option.bind_some, c_addHouse v2 (by omega), Option.bind_some]
  simp only []
  rw [c_enter (by omega) (by omega), Option.bind_some]
  refine RT.bind (c_drop (U := fdV V p) ⟨⟨?_, ?_, ?_⟩, fun q hq => ?_, fun k hk => ?_⟩ (WFV_fd w hp hn).1) (fun q hq => RT.done hQ (hq.congr (drop_full (WFV_fd w hp hn))))
  · simp (disch := omega) only [bnd_nr, li_0, li_1, li_2, li_3, li_4, li_5, li_6, li_7, li_8, li_9, li_10, li_11, li_12, li_13, li_14, li_15, li_16, li_17, li_18, li_19, li_20, li_21, li_22, li_23, li_24, li_25, li_26, li_27, li_28, li_29, li_30, li_31, li_32, li_33, li_34, li_35, li_36, li_37, li_38, li_39, li_40, li_41, li_42, li_43, li_44, li_45, li_46, li_47, li_48, li_49, li_50, li_51, li_52, li_53, li_54, li_55, li_56, li_57, li_58, li_59, li_60, li_61, li_62, li_63, li_64, li_74, li_86, li_87, li_88, li_96, li_97, li_98, li_99, li_100, li_101, li_102, li_103, li_104, li_105, li_107, li_108, li_109, li_110, li_111, li_112, li_114, li_115, li_116, li_117, li_118, li_121, li_122, li_124, li_136, li_148, li_160, li_680, li_200, li_201, li_255, li_700, li_950, li_1000, li_1400, li_3440, li_4096, li_9999, li_10000, li_20000, li_20033, li_20038, li_20124, li_32767, li_65535, li_1103515245, li_12345, li_m, sx_grd, sx_clamp, nI_add, sx_sub, pk_mul, sx_le, sx_lt, sx_eq, sx_eqm, sx_meq, sx_lem, sx_mle, sx_ltm, sx_mlt, sx_addm, sx_shl, sx_bit1, sx_bit0, fa_or, uA_s, uA_n, sA_s, sA_n, sx_uA, sx_uAn, sx_sAs, pk_us, pk_un, if_true, if_false, if_pos, if_neg, ob_some, Nat.add_zero, Nat.add_sub_cancel, eq_self, ne_eq, not_true, not_false_iff, false_or, true_or, or_false, or_true, false_and, true_and, and_false, and_true]; exact v1
  · simp (disch := omega) only [bnd_nr, li_0, li_1, li_2, li_3, li_4, li_5, li_6, li_7, li_8, li_9, li_10, li_11, li_12, li_13, li_14, li_15, li_16, li_17, li_18, li_19, li_20, li_21, li_22, li_23, li_24, li_25, li_26, li_27, li_28, li_29, li_30, li_31, li_32, li_33, li_34, li_35, li_36, li_37, li_38, li_39, li_40, li_41, li_42, li_43, li_44, li_45, li_46, li_47, li_48, li_49, li_50, li_51, li_52, li_53, li_54, li_55, li_56, li_57, li_58, li_59, li_60, li_61, li_62, li_63, li_64, li_74, li_86, li_87, li_88, li_96, li_97, li_98, li_99, li_100, li_101, li_102, li_103, li_104, li_105, li_107, li_108, li_109, li_110, li_111, li_112, li_114, li_115, li_116, li_117, li_118, li_121, li_122, li_124, li_136, li_148, li_160, li_680, li_200, li_201, li_255, li_700, li_950, li_1000, li_1400, li_3440, li_4096, li_9999, li_10000, li_20000, li_20033, li_20038, li_20124, li_32767, li_65535, li_1103515245, li_12345, li_m, sx_grd, sx_clamp, nI_add, sx_sub, pk_mul, sx_le, sx_lt, sx_eq, sx_eqm, sx_meq, sx_lem, sx_mle, sx_ltm, sx_mlt, sx_addm, sx_shl, sx_bit1, sx_bit0, fa_or, uA_s, uA_n, sA_s, sA_n, sx_uA, sx_uAn, sx_sAs, pk_us, pk_un, if_true, if_false, if_pos, if_neg, ob_some, Nat.add_zero, Nat.add_sub_cancel, eq_self, ne_eq, not_true, not_false_iff, false_or, true_or, or_false, or_true, false_and, true_and, and_false, and_true]; rfl
  · simp (disch := omega) only [bnd_nr, li_0, li_1, li_2, li_3, li_4, li_5, li_6, li_7, li_8, li_9, li_10, li_11, li_12, li_13, li_14, li_15, li_16, li_17, li_18, li_19, li_20, li_21, li_22, li_23, li_24, li_25, li_26, li_27, li_28, li_29, li_30, li_31, li_32, li_33, li_34, li_35, li_36, li_37, li_38, li_39, li_40, li_41, li_42, li_43, li_44, li_45, li_46, li_47, li_48, li_49, li_50, li_51, li_52, li_53, li_54, li_55, li_56, li_57, li_58, li_59, li_60, li_61, li_62, li_63, li_64, li_74, li_86, li_87, li_88, li_96, li_97, li_98, li_99, li_100, li_101, li_102, li_103, li_104, li_105, li_107, li_108, li_109, li_110, li_111, li_112, li_114, li_115, li_116, li_117, li_118, li_121, li_122, li_124, li_136, li_148, li_160, li_680, li_200, li_201, li_255, li_700, li_950, li_1000, li_1400, li_3440, li_4096, li_9999, li_10000, li_20000, li_20033, li_20038, li_20124, li_32767, li_65535, li_1103515245, li_12345, li_m, sx_grd, sx_clamp, nI_add, sx_sub, pk_mul, sx_le, sx_lt, sx_eq, sx_eqm, sx_meq, sx_lem, sx_mle, sx_ltm, sx_mlt, sx_addm, sx_shl, sx_bit1, sx_bit0, fa_or, uA_s, uA_n, sA_s, sA_n, sx_uA, sx_uAn, sx_sAs, pk_us, pk_un, if_true, if_false, if_pos, if_neg, ob_some, Nat.add_zero, Nat.add_sub_cancel, eq_self, ne_eq, not_true, not_false_iff, false_or, true_or, or_false, or_true, false_and, true_and, and_false, and_true]; exact v3
  · have hq : q < vn V := hq
    simp (disch := omega) only [bnd_nr, li_0, li_1, li_2, li_3, li_4, li_5, li_6, li_7, li_8, li_9, li_10, li_11, li_12, li_13, li_14, li_15, li_16, li_17, li_18, li_19, li_20, li_21, li_22, li_23, li_24, li_25, li_26, li_27, li_28, li_29, li_30, li_31, li_32, li_33, li_34, li_35, li_36, li_37, li_38, li_39, li_40, li_41, li_42, li_43, li_44, li_45, li_46, li_47, li_48, li_49, li_50, li_51, li_52, li_53, li_54, li_55, li_56, li_57, li_58, li_59, li_60, li_61, li_62, li_63, li_64, li_74, li_86, li_87, li_88, li_96, li_97, li_98, li_99, li_100, li_101, li_102, li_103, li_104, li_105, li_107, li_108, li_109, li_110, li_111, li_112, li_114, li_115, li_116, li_117, li_118, li_121, li_122, li_124, li_136, li_148, li_160, li_680, li_200, li_201, li_255, li_700, li_950, li_1000, li_1400, li_3440, li_4096, li_9999, li_10000, li_20000, li_20033, li_20038, li_20124, li_32767, li_65535, li_1103515245, li_12345, li_m, sx_grd, sx_clamp, nI_add, sx_sub, pk_mul, sx_le, sx_lt, sx_eq, sx_eqm, sx_meq, sx_lem, sx_mle, sx_ltm, sx_mlt, sx_addm, sx_shl, sx_bit1, sx_bit0, fa_or, uA_s, uA_n, sA_s, sA_n, sx_uA, sx_uAn, sx_sAs, pk_us, pk_un, if_true, if_false, if_pos, if_neg, ob_some, Nat.add_zero, Nat.add_sub_cancel, eq_self, ne_eq, not_true, not_false_iff, false_or, true_or, or_false, or_true, false_and, true_and, and_false, and_true, v3]
    show A 1 q = nI (rk V q) ∧ _ = nI (if q = p then vh V else ho V q) ∧ _ = nI (if q = p then 0 else lv V p q) ∧ _ = nI (ve V - (if q = p then 0 else si V q)) ∧ A 5 q = mv V q
    by_cases d : q = p
    · subst d
      rw [pk_us, pk_us, pk_us, if_pos rfl, if_pos rfl, if_pos rfl]
      exact ⟨(v4 q hq).1, rfl, rfl, rfl, (v4 q hq).2.2.2.2⟩
    · rw [pk_un d, pk_un d, pk_un d, if_neg d, if_neg d, if_neg d, fa_fill_in hq, cup_lv wp vh_ vp_ hp hq]
      exact ⟨(v4 q hq).1, (v4 q hq).2.1, rfl, (v4 q hq).2.2.2.1, (v4 q hq).2.2.2.2⟩
  · have hk : k < vh V + 1 := hk
    simp (disch := omega) only [bnd_nr, li_0, li_1, li_2, li_3, li_4, li_5, li_6, li_7, li_8, li_9, li_10, li_11, li_12, li_13, li_14, li_15, li_16, li_17, li_18, li_19, li_20, li_21, li_22, li_23, li_24, li_25, li_26, li_27, li_28, li_29, li_30, li_31, li_32, li_33, li_34, li_35, li_36, li_37, li_38, li_39, li_40, li_41, li_42, li_43, li_44, li_45, li_46, li_47, li_48, li_49, li_50, li_51, li_52, li_53, li_54, li_55, li_56, li_57, li_58, li_59, li_60, li_61, li_62, li_63, li_64, li_74, li_86, li_87, li_88, li_96, li_97, li_98, li_99, li_100, li_101, li_102, li_103, li_104, li_105, li_107, li_108, li_109, li_110, li_111, li_112, li_114, li_115, li_116, li_117, li_118, li_121, li_122, li_124, li_136, li_148, li_160, li_680, li_200, li_201, li_255, li_700, li_950, li_1000, li_1400, li_3440, li_4096, li_9999, li_10000, li_20000, li_20033, li_20038, li_20124, li_32767, li_65535, li_1103515245, li_12345, li_m, sx_grd, sx_clamp, nI_add, sx_sub, pk_mul, sx_le, sx_lt, sx_eq, sx_eqm, sx_meq, sx_lem, sx_mle, sx_ltm, sx_mlt, sx_addm, sx_shl, sx_bit1, sx_bit0, fa_or, uA_s, uA_n, sA_s, sA_n, sx_uA, sx_uAn, sx_sAs, pk_us, pk_un, if_true, if_false, if_pos, if_neg, ob_some, Nat.add_zero, Nat.add_sub_cancel, eq_self, ne_eq, not_true, not_false_iff, false_or, true_or, or_false, or_true, false_and, true_and, and_false, and_true, show A 6 (ho V p) = nI (sz V (ho V p)) from (v5 _ b1.1).1, v3]
    show _ ∧ _ = nI (ve V - (if k = vh V then 0 else ol V k))
    have e := sz_fd (V := V) hp k
    have sp := sz_pos (V := V) hp
    by_cases d : k = vh V
    · subst d
      rw [if_neg (by omega), if_pos rfl, sz_out wp (Nat.le_refl _)] at e
      rw [pk_us, pk_us, if_pos rfl]
      exact ⟨congrArg nI (by omega), rfl⟩
    · simp only [pk_un d, if_neg d]
      by_cases d2 : k = ho V p
      · subst d2
        rw [if_pos rfl, if_neg (fun z => d z.symm)] at e
        rw [pk_us]; exact ⟨congrArg nI (by omega), (v5 (ho V p) b1.1).2⟩
      · rw [if_neg (fun z => d2 z.symm), if_neg (fun z => d z.symm)] at e
        rw [pk_un d2]
        exact ⟨(v5 k (by omega)).1.trans (congrArg nI (by omega)), (v5 k (by omega)).2⟩
theorem c_joinTo {v : Ob} {V : VT} (c : VC v V) (w : WFV V) {a b : Nat} (ha : a < vh V) (hb : b < vh V) (hn : a ≠ b) : RT (f_X10_joinTo v (nI a) (nI b)) (fun r => VC r (dropV (jnV V a b))) := by
  refine RT.cps (fun Q hQ => ?_)
  have wp := w.1
  have b0 := wp.1
  obtain ⟨I, A⟩ := v
  obtain ⟨⟨v1, v2, v3⟩, v4, v5⟩ := c
  have v1 : I 0 = nI (vn V) := v1
  have v2 : I 1 = nI (vh V) := v2
  have v3 : I 2 = nI (ve V) := v3
  have za : A 6 a = nI (sz V a) := (v5 a ha).1
  have zb : A 6 b = nI (sz V b) := (v5 b hb).1
  unfold f_X10_joinTo
  refine RT.loop0 (fun n i (z : Ob) => f_X10_joinTo_L2 (nI a) (nI b) n (nI i) z) (vn V) (fun i z => z = (I, sA (sA (sA A 2 (fa_fill (fun q => nI (if ho V q = a then b else ho V q)) (A 2) i)) 3 (fa_fill (fun q => nI (if ho V q = a then pl V q + sz V b else pl V q)) (A 3) i)) 4 (fa_fill (fun q => nI (ve V - (if ho V q = a then 0 else si V q))) (A 4) i))) _ _ (by omega) ?_ ?_ ?_
  · rw [fa_fill_0, fa_fill_0, fa_fill_0, sA_self, show sA A 3 (A 3) = A from sA_self, show sA A 4 (A 4) = A from sA_self]
  · intro n z ez; subst ez
    show RT (f_X10_joinTo_L2 (nI a) (nI b) (n + 1) (nI (vn V)) _) _
    unfold f_X10_joinTo_L2
    simp (disch := omega) only [bnd_nr, li_0, li_1, li_2, li_3, li_4, li_5, li_6, li_7, li_8, li_9, li_10, li_11, li_12, li_13, li_14, li_15, li_16, li_17, li_18, li_19, li_20, li_21, li_22, li_23, li_24, li_25, li_26, li_27, li_28, li_29, li_30, li_31, li_32, li_33, li_34, li_35, li_36, li_37, li_38, li_39, li_40, li_41, li_42, li_43, li_44, li_45, li_46, li_47, li_48, li_49, li_50, li_51, li_52, li_53, li_54, li_55, li_56, li_57, li_58, li_59, li_60, li_61, li_62, li_63, li_64, li_74, li_86, li_87, li_88, li_96, li_97, li_98, li_99, li_100, li_101, li_102, li_103, li_104, li_105, li_107, li_108, li_109, li_110, li_111, li_112, li_114, li_115, li_116, li_117, li_118, li_121, li_122, li_124, li_136, li_148, li_160, li_680, li_200, li_201, li_255, li_700, li_950, li_1000, li_1400, li_3440, li_4096, li_9999, li_10000, li_20000, li_20033, li_20038, li_20124, li_32767, li_65535, li_1103515245, li_12345, li_m, sx_grd, sx_clamp, nI_add, sx_sub, pk_mul, sx_le, sx_lt, sx_eq, sx_eqm, sx_meq, sx_lem, sx_mle, sx_ltm, sx_mlt, sx_addm, sx_shl, sx_bit1, sx_bit0, fa_or, uA_s, uA_n, sA_s, sA_n, sx_uA, sx_uAn, sx_sAs, pk_us, pk_un, if_true, if_false, if_pos, if_neg, ob_some, Nat.add_zero, Nat.add_sub_cancel, eq_self, ne_eq, not_true, not_false_iff, false_or, true_or, or_false, or_true, false_and, true_and, and_false, and_true, v1, za, zb]
    refine RT.bind (c_drop (U := jnV V a b) ⟨⟨v1, v2, v3⟩, fun q hq => ?_, fun k hk => ?_⟩ (WFP_jn w ha hb hn)) (fun q hq => RT.done hQ hq)
    · have hq : q < vn V := hq
      simp (disch := omega) only [bnd_nr, li_0, li_1, li_2, li_3, li_4, li_5, li_6, li_7, li_8, li_9, li_10, li_11, li_12, li_13, li_14, li_15, li_16, li_17, li_18, li_19, li_20, li_21, li_22, li_23, li_24, li_25, li_26, li_27, li_28, li_29, li_30, li_31, li_32, li_33, li_34, li_35, li_36, li_37, li_38, li_39, li_40, li_41, li_42, li_43, li_44, li_45, li_46, li_47, li_48, li_49, li_50, li_51, li_52, li_53, li_54, li_55, li_56, li_57, li_58, li_59, li_60, li_61, li_62, li_63, li_64, li_74, li_86, li_87, li_88, li_96, li_97, li_98, li_99, li_100, li_101, li_102, li_103, li_104, li_105, li_107, li_108, li_109, li_110, li_111, li_112, li_114, li_115, li_116, li_117, li_118, li_121, li_122, li_124, li_136, li_148, li_160, li_680, li_200, li_201, li_255, li_700, li_950, li_1000, li_1400, li_3440, li_4096, li_9999, li_10000, li_20000, li_20033, li_20038, li_20124, li_32767, li_65535, li_1103515245, li_12345, li_m, sx_grd, sx_clamp, nI_add, sx_sub, pk_mul, sx_le, sx_lt, sx_eq, sx_eqm, sx_meq, sx_lem, sx_mle, sx_ltm, sx_mlt, sx_addm, sx_shl, sx_bit1, sx_bit0, fa_or, uA_s, uA_n, sA_s, sA_n, sx_uA, sx_uAn, sx_sAs, pk_us, pk_un, if_true, if_false, if_pos, if_neg, ob_some, Nat.add_zero, Nat.add_sub_cancel, eq_self, ne_eq, not_true, not_false_iff, false_or, true_or, or_false, or_true, false_and, true_and, and_false, and_true, fa_fill_in hq]
      exact ⟨(v4 q hq).1, rfl, rfl, rfl, (v4 q hq).2.2.2.2⟩
    · have hk : k < vh V := hk
      simp (disch := omega) only [bnd_nr, li_0, li_1, li_2, li_3, li_4, li_5, li_6, li_7, li_8, li_9, li_10, li_11, li_12, li_13, li_14, li_15, li_16, li_17, li_18, li_19, li_20, li_21, li_22, li_23, li_24, li_25, li_26, li_27, li_28, li_29, li_30, li_31, li_32, li_33, li_34, li_35, li_36, li_37, li_38, li_39, li_40, li_41, li_42, li_43, li_44, li_45, li_46, li_47, li_48, li_49, li_50, li_51, li_52, li_53, li_54, li_55, li_56, li_57, li_58, li_59, li_60, li_61, li_62, li_63, li_64, li_74, li_86, li_87, li_88, li_96, li_97, li_98, li_99, li_100, li_101, li_102, li_103, li_104, li_105, li_107, li_108, li_109, li_110, li_111, li_112, li_114, li_115, li_116, li_117, li_118, li_121, li_122, li_124, li_136, li_148, li_160, li_680, li_200, li_201, li_255, li_700, li_950, li_1000, li_1400, li_3440, li_4096, li_9999, li_10000, li_20000, li_20033, li_20038, li_20124, li_32767, li_65535, li_1103515245, li_12345, li_m, sx_grd, sx_clamp, nI_add, sx_sub, pk_mul, sx_le, sx_lt, sx_eq, sx_eqm, sx_meq, sx_lem, sx_mle, sx_ltm, sx_mlt, sx_addm, sx_shl, sx_bit1, sx_bit0, fa_or, uA_s, uA_n, sA_s, sA_n, sx_uA, sx_uAn, sx_sAs, pk_us, pk_un, if_true, if_false, if_pos, if_neg, ob_some, Nat.add_zero, Nat.add_sub_cancel, eq_self, ne_eq, not_true, not_false_iff, false_or, true_or, or_false, or_true, false_and, true_and, and_false, and_true]
      refine ⟨?_, (v5 k hk).2⟩
      rw [sz_jn hn]
      by_cases d : k = a
      · subst d; rw [pk_us, if_pos rfl]
      · rw [pk_un d, if_neg d]
        by_cases d2 : k = b
        · subst d2; rw [pk_us, if_pos rfl, Nat.add_comm]
        · rw [pk_un d2, if_neg d2]; exact (v5 k hk).1
  · intro n i z hi ez hk; subst ez
    show RT (f_X10_joinTo_L2 (nI a) (nI b) (n + 1) (nI i) _) _
    obtain ⟨q1, q2, q3, q4, q5⟩ := v4 i hi
    have q2 : A 2 i = nI (ho V i) := q2
    have q3 : A 3 i = nI (pl V i) := q3
    have q4 : A 4 i = nI (ve V - si V i) := q4
    have b1 := wp.2.1 i hi
    have s1 := sz_le V (ho V i)
    unfold f_X10_joinTo_L2
    simp (disch := omega) only [bnd_nr, li_0, li_1, li_2, li_3, li_4, li_5, li_6, li_7, li_8, li_9, li_10, li_11, li_12, li_13, li_14, li_15, li_16, li_17, li_18, li_19, li_20, li_21, li_22, li_23, li_24, li_25, li_26, li_27, li_28, li_29, li_30, li_31, li_32, li_33, li_34, li_35, li_36, li_37, li_38, li_39, li_40, li_41, li_42, li_43, li_44, li_45, li_46, li_47, li_48, li_49, li_50, li_51, li_52, li_53, li_54, li_55, li_56, li_57, li_58, li_59, li_60, li_61, li_62, li_63, li_64, li_74, li_86, li_87, li_88, li_96, li_97, li_98, li_99, li_100, li_101, li_102, li_103, li_104, li_105, li_107, li_108, li_109, li_110, li_111, li_112, li_114, li_115, li_116, li_117, li_118, li_121, li_122, li_124, li_136, li_148, li_160, li_680, li_200, li_201, li_255, li_700, li_950, li_1000, li_1400, li_3440, li_4096, li_9999, li_10000, li_20000, li_20033, li_20038, li_20124, li_32767, li_65535, li_1103515245, li_12345, li_m, sx_grd, sx_clamp, nI_add, sx_sub, pk_mul, sx_le, sx_lt, sx_eq, sx_eqm, sx_meq, sx_lem, sx_mle, sx_ltm, sx_mlt, sx_addm, sx_shl, sx_bit1, sx_bit0, fa_or, uA_s, uA_n, sA_s, sA_n, sx_uA, sx_uAn, sx_sAs, pk_us, pk_un, if_true, if_false, if_pos, if_neg, ob_some, Nat.add_zero, Nat.add_sub_cancel, eq_self, ne_eq, not_true, not_false_iff, false_or, true_or, or_false, or_true, false_and, true_and, and_false, and_true, v1, v3, fill_at, q2, q3, zb]
    refine RT.ite (fun d => hk _ ?_) (fun d => hk _ ?_)
    · rw [fill_up (by rw [if_pos d]), fill_up (by rw [if_pos d]), fill_up (by rw [if_pos d]; rfl)]
    · rw [fill_keep (by rw [if_neg d, q2]), fill_keep (by rw [if_neg d, q3]), fill_keep (by rw [if_neg d, q4])]
/-! the reference's -/
def MR (M r : MS) (b : Nat) (V : VT) : Prop := r.1 = M.1 ∧ r.2.1 = M.2.1 ∧ (∀ j, j ≠ 10 → r.2.2 j = M.2.2 j) ∧ ∃ X, r.2.2 10 = rowf (M.2.2 10) b X ∧ XP X V
theorem VM.can {M : MS} {b : Nat} {V : VT} (v : VM M b V) (hn : vn V ≤ 12) (hh : vh V ≤ 12) : ∃ X, M = (M.1, M.2.1, sA M.2.2 10 (rowf (M.2.2 10) b X)) ∧ XP X V := by
  refine ⟨rx (M.2.2 10) b, ?_, (XP_iff (f := M.2.2 10) (b := b) hn hh).mp (by rw [rowf_self]; exact v.2)⟩
  rw [rowf_self, sA_self]
theorem MR.vm {M r : MS} {b : Nat} {V : VT} (h : MR M r b V) (hn : vn V ≤ 12) (hh : vh V ≤ 12) (e : M.1 1 = nI (vn V)) : VM r b V := by
  obtain ⟨h1, h2, h3, X, h4, h5⟩ := h
  refine ⟨by rw [h1]; exact e, ?_⟩
  rw [h4]
  exact (XP_iff hn hh).mpr h5
theorem m_falls {I : Nat → Int32} {w0 : Int64} {A : Nat → Nat → Int32} {f : Nat → Int32} {b : Nat} {U : VT} {X : Nat → Nat → Int32} (hI : I 1 = nI (vn U)) (w : WFP U) (hb : b ≤ 86) (h12 : vh U ≤ 12) (x : XP X U) : RT (f_X12_falls0 (I, w0, sA A 10 (rowf f b X)) (nI b)) (fun r => ∃ Y, r = (I, w0, sA A 10 (rowf f b Y)) ∧ XP Y (dropV U)) := by
  obtain ⟨⟨xa, xb⟩, xc, xd⟩ := x
  have no : ∀ h, oc (fun _ => false) (ho U) (vn U) h = ne U h := fun h => by
    unfold oc ne
    rw [show fb_ct (fun p => !false && decide (ho U p = h)) (vn U) = sz U h from fb_ct_cong (fun p _ => by simp)]
  have nf : oc (fun _ => false) (ho U) (vn U) = ne U := funext no
  refine (m_falls0 (out := fun _ => false) (a := ho U) hI w.1.1 hb h12 xb (fun p hp => by rw [if_neg (by decide)]; exact (xc p hp).1) (fun p hp => (w.2.1 p hp).1)).weak (fun r ⟨Y, e, y0, y1, y2, y3, y4⟩ => ⟨Y, e, ⟨by rw [y0]; exact xa, ?_⟩, fun p hp => ?_, fun k hk => ?_⟩)
  · rw [y1, nf]; rfl
  · rw [y2 p hp, y3 2 (by omega) (by omega), y3 3 (by omega) (by omega), y3 4 (by omega) (by omega), y3 5 (by omega) (by omega), nf]
    exact ⟨rfl, (xc p hp).2⟩
  · obtain ⟨a, a1, a2, a3⟩ := nx_kth (V := U) hk
    have := y4 a a1 (by rw [no]; exact a2)
    rw [nf, show fb_ct (ne U) a = k from a3] at this
    show _ = nI (ol U (kt (ne U) (vh U) k)) ∧ _ = idd U (kt (ne U) (vh U) k)
    rw [← a3, show nx U a = fb_ct (ne U) a from rfl, kt_ct a1 a2]
    rw [show fb_ct (ne U) a = k from a3, this.1, this.2]
    exact xd a a1
theorem m_moves {M : MS} {b : Nat} {V : VT} (v : VM M b V) (w : WFV V) (hb : b ≤ 86) {p h : Nat} (hp : p < vn V) (hh : h < vh V) (hn : ho V p ≠ h) : RT (f_X12_moves M (nI b) (nI p) (nI h)) (fun r => MR M r b (dropV (mvV V p h))) := by
  refine RT.cps (fun Q hQ => ?_)
  have wp := w.1
  have b0 := wp.1
  have hhn := w.hn
  have i1 := v.1
  obtain ⟨X, e, x⟩ := v.can wp.1.1 (by omega)
  obtain ⟨⟨xa, xb⟩, xc, xd⟩ := x
  unfold f_X12_moves
  rw [m_sizeOf v wp hb (by omega), Option.bind_some]
  rw [show f_X12_leaves M (nI b) (nI p) = _ from (congrArg (fun m => f_X12_leaves m (nI b) (nI p)) e).trans (m_leaves i1 wp.1.1 hb hp)]
  simp (disch := omega) only [bnd_nr, li_0, li_1, li_2, li_3, li_4, li_5, li_6, li_7, li_8, li_9, li_10, li_11, li_12, li_13, li_14, li_15, li_16, li_17, li_18, li_19, li_20, li_21, li_22, li_23, li_24, li_25, li_26, li_27, li_28, li_29, li_30, li_31, li_32, li_33, li_34, li_35, li_36, li_37, li_38, li_39, li_40, li_41, li_42, li_43, li_44, li_45, li_46, li_47, li_48, li_49, li_50, li_51, li_52, li_53, li_54, li_55, li_56, li_57, li_58, li_59, li_60, li_61, li_62, li_63, li_64, li_74, li_86, li_87, li_88, li_96, li_97, li_98, li_99, li_100, li_101, li_102, li_103, li_104, li_105, li_107, li_108, li_109, li_110, li_111, li_112, li_114, li_115, li_116, li_117, li_118, li_121, li_122, li_124, li_136, li_148, li_160, li_680, li_200, li_201, li_255, li_700, li_950, li_1000, li_1400, li_3440, li_4096, li_9999, li_10000, li_20000, li_20033, li_20038, li_20124, li_32767, li_65535, li_1103515245, li_12345, li_m, sx_grd, sx_clamp, nI_add, sx_sub, pk_mul, sx_le, sx_lt, sx_eq, sx_eqm, sx_meq, sx_lem, sx_mle, sx_ltm, sx_mlt, sx_addm, sx_shl, sx_bit1, sx_bit0, fa_or, uA_s, uA_n, sA_s, sA_n, sx_uA, sx_uAn, sx_sAs, pk_us, pk_un, if_true, if_false, if_pos, if_neg, ob_some, Nat.add_zero, Nat.add_sub_cancel, eq_self, ne_eq, not_true, not_false_iff, false_or, true_or, or_false, or_true, false_and, true_and, and_false, and_true, rowf_00, rowf_01, rowf_2, rowf_14, rowf_26, rowf_38, rowf_50, rowf_62, rowf_74, rowf_u00, rowf_u01, rowf_u2, rowf_u14, rowf_u26, rowf_u38, rowf_u50, rowf_u62, rowf_u74]
  refine RT.bind (m_falls (U := mvV V p h) i1 (WFP_mv w hp hh hn) hb (show vh V ≤ 12 by omega) ⟨⟨?_, ?_⟩, fun q hq => ?_, fun k hk => ?_⟩) (fun q ⟨Y, ey, y⟩ => RT.done hQ ?_)
  · simp (disch := omega) only [bnd_nr, li_0, li_1, li_2, li_3, li_4, li_5, li_6, li_7, li_8, li_9, li_10, li_11, li_12, li_13, li_14, li_15, li_16, li_17, li_18, li_19, li_20, li_21, li_22, li_23, li_24, li_25, li_26, li_27, li_28, li_29, li_30, li_31, li_32, li_33, li_34, li_35, li_36, li_37, li_38, li_39, li_40, li_41, li_42, li_43, li_44, li_45, li_46, li_47, li_48, li_49, li_50, li_51, li_52, li_53, li_54, li_55, li_56, li_57, li_58, li_59, li_60, li_61, li_62, li_63, li_64, li_74, li_86, li_87, li_88, li_96, li_97, li_98, li_99, li_100, li_101, li_102, li_103, li_104, li_105, li_107, li_108, li_109, li_110, li_111, li_112, li_114, li_115, li_116, li_117, li_118, li_121, li_122, li_124, li_136, li_148, li_160, li_680, li_200, li_201, li_255, li_700, li_950, li_1000, li_1400, li_3440, li_4096, li_9999, li_10000, li_20000, li_20033, li_20038, li_20124, li_32767, li_65535, li_1103515245, li_12345, li_m, sx_grd, sx_clamp, nI_add, sx_sub, pk_mul, sx_le, sx_lt, sx_eq, sx_eqm, sx_meq, sx_lem, sx_mle, sx_ltm, sx_mlt, sx_addm, sx_shl, sx_bit1, sx_bit0, fa_or, uA_s, uA_n, sA_s, sA_n, sx_uA, sx_uAn, sx_sAs, pk_us, pk_un, if_true, if_false, if_pos, if_neg, ob_some, Nat.add_zero, Nat.add_sub_cancel, eq_self, ne_eq, not_true, not_false_iff, false_or, true_or, or_false, or_true, false_and, true_and, and_false, and_true]; exact xa
  · simp (disch := omega) only [bnd_nr, li_0, li_1, li_2, li_3, li_4, li_5, li_6, li_7, li_8, li_9, li_10, li_11, li_12, li_13, li_14, li_15, li_16, li_17, li_18, li_19, li_20, li_21, li_22, li_23, li_24, li_25, li_26, li_27, li_28, li_29, li_30, li_31, li_32, li_33, li_34, li_35, li_36, li_37, li_38, li_39, li_40, li_41, li_42, li_43, li_44, li_45, li_46, li_47, li_48, li_49, li_50, li_51, li_52, li_53, li_54, li_55, li_56, li_57, li_58, li_59, li_60, li_61, li_62, li_63, li_64, li_74, li_86, li_87, li_88, li_96, li_97, li_98, li_99, li_100, li_101, li_102, li_103, li_104, li_105, li_107, li_108, li_109, li_110, li_111, li_112, li_114, li_115, li_116, li_117, li_118, li_121, li_122, li_124, li_136, li_148, li_160, li_680, li_200, li_201, li_255, li_700, li_950, li_1000, li_1400, li_3440, li_4096, li_9999, li_10000, li_20000, li_20033, li_20038, li_20124, li_32767, li_65535, li_1103515245, li_12345, li_m, sx_grd, sx_clamp, nI_add, sx_sub, pk_mul, sx_le, sx_lt, sx_eq, sx_eqm, sx_meq, sx_lem, sx_mle, sx_ltm, sx_mlt, sx_addm, sx_shl, sx_bit1, sx_bit0, fa_or, uA_s, uA_n, sA_s, sA_n, sx_uA, sx_uAn, sx_sAs, pk_us, pk_un, if_true, if_false, if_pos, if_neg, ob_some, Nat.add_zero, Nat.add_sub_cancel, eq_self, ne_eq, not_true, not_false_iff, false_or, true_or, or_false, or_true, false_and, true_and, and_false, and_true]; exact xb
  · have hq : q < vn V := hq
    simp (disch := omega) only [bnd_nr, li_0, li_1, li_2, li_3, li_4, li_5, li_6, li_7, li_8, li_9, li_10, li_11, li_12, li_13, li_14, li_15, li_16, li_17, li_18, li_19, li_20, li_21, li_22, li_23, li_24, li_25, li_26, li_27, li_28, li_29, li_30, li_31, li_32, li_33, li_34, li_35, li_36, li_37, li_38, li_39, li_40, li_41, li_42, li_43, li_44, li_45, li_46, li_47, li_48, li_49, li_50, li_51, li_52, li_53, li_54, li_55, li_56, li_57, li_58, li_59, li_60, li_61, li_62, li_63, li_64, li_74, li_86, li_87, li_88, li_96, li_97, li_98, li_99, li_100, li_101, li_102, li_103, li_104, li_105, li_107, li_108, li_109, li_110, li_111, li_112, li_114, li_115, li_116, li_117, li_118, li_121, li_122, li_124, li_136, li_148, li_160, li_680, li_200, li_201, li_255, li_700, li_950, li_1000, li_1400, li_3440, li_4096, li_9999, li_10000, li_20000, li_20033, li_20038, li_20124, li_32767, li_65535, li_1103515245, li_12345, li_m, sx_grd, sx_clamp, nI_add, sx_sub, pk_mul, sx_le, sx_lt, sx_eq, sx_eqm, sx_meq, sx_lem, sx_mle, sx_ltm, sx_mlt, sx_addm, sx_shl, sx_bit1, sx_bit0, fa_or, uA_s, uA_n, sA_s, sA_n, sx_uA, sx_uAn, sx_sAs, pk_us, pk_un, if_true, if_false, if_pos, if_neg, ob_some, Nat.add_zero, Nat.add_sub_cancel, eq_self, ne_eq, not_true, not_false_iff, false_or, true_or, or_false, or_true, false_and, true_and, and_false, and_true]
    show _ = nI (if q = p then h else ho V q) ∧ _ = nI (if q = p then sz V h else lv V p q) ∧ _ = nI (if q = p then 0 else si V q) ∧ X 4 q = mv V q ∧ X 5 q = nI (rk V q)
    by_cases d : q = p
    · subst d
      simp (disch := omega) only [bnd_nr, li_0, li_1, li_2, li_3, li_4, li_5, li_6, li_7, li_8, li_9, li_10, li_11, li_12, li_13, li_14, li_15, li_16, li_17, li_18, li_19, li_20, li_21, li_22, li_23, li_24, li_25, li_26, li_27, li_28, li_29, li_30, li_31, li_32, li_33, li_34, li_35, li_36, li_37, li_38, li_39, li_40, li_41, li_42, li_43, li_44, li_45, li_46, li_47, li_48, li_49, li_50, li_51, li_52, li_53, li_54, li_55, li_56, li_57, li_58, li_59, li_60, li_61, li_62, li_63, li_64, li_74, li_86, li_87, li_88, li_96, li_97, li_98, li_99, li_100, li_101, li_102, li_103, li_104, li_105, li_107, li_108, li_109, li_110, li_111, li_112, li_114, li_115, li_116, li_117, li_118, li_121, li_122, li_124, li_136, li_148, li_160, li_680, li_200, li_201, li_255, li_700, li_950, li_1000, li_1400, li_3440, li_4096, li_9999, li_10000, li_20000, li_20033, li_20038, li_20124, li_32767, li_65535, li_1103515245, li_12345, li_m, sx_grd, sx_clamp, nI_add, sx_sub, pk_mul, sx_le, sx_lt, sx_eq, sx_eqm, sx_meq, sx_lem, sx_mle, sx_ltm, sx_mlt, sx_addm, sx_shl, sx_bit1, sx_bit0, fa_or, uA_s, uA_n, sA_s, sA_n, sx_uA, sx_uAn, sx_sAs, pk_us, pk_un, if_true, if_false, if_pos, if_neg, ob_some, Nat.add_zero, Nat.add_sub_cancel, eq_self, ne_eq, not_true, not_false_iff, false_or, true_or, or_false, or_true, false_and, true_and, and_false, and_true]
      exact ⟨(xc q hq).2.2.2.1, (xc q hq).2.2.2.2⟩
    · simp only [pk_un d, if_neg d]
      rw [fa_fill_in hq, cup_lv wp (fun p hp => (xc p hp).1) (fun p hp => (xc p hp).2.1) hp hq]
      exact ⟨(xc q hq).1, rfl, (xc q hq).2.2.1, (xc q hq).2.2.2.1, (xc q hq).2.2.2.2⟩
  · simp (disch := omega) only [bnd_nr, li_0, li_1, li_2, li_3, li_4, li_5, li_6, li_7, li_8, li_9, li_10, li_11, li_12, li_13, li_14, li_15, li_16, li_17, li_18, li_19, li_20, li_21, li_22, li_23, li_24, li_25, li_26, li_27, li_28, li_29, li_30, li_31, li_32, li_33, li_34, li_35, li_36, li_37, li_38, li_39, li_40, li_41, li_42, li_43, li_44, li_45, li_46, li_47, li_48, li_49, li_50, li_51, li_52, li_53, li_54, li_55, li_56, li_57, li_58, li_59, li_60, li_61, li_62, li_63, li_64, li_74, li_86, li_87, li_88, li_96, li_97, li_98, li_99, li_100, li_101, li_102, li_103, li_104, li_105, li_107, li_108, li_109, li_110, li_111, li_112, li_114, li_115, li_116, li_117, li_118, li_121, li_122, li_124, li_136, li_148, li_160, li_680, li_200, li_201, li_255, li_700, li_950, li_1000, li_1400, li_3440, li_4096, li_9999, li_10000, li_20000, li_20033, li_20038, li_20124, li_32767, li_65535, li_1103515245, li_12345, li_m, sx_grd, sx_clamp, nI_add, sx_sub, pk_mul, sx_le, sx_lt, sx_eq, sx_eqm, sx_meq, sx_lem, sx_mle, sx_ltm, sx_mlt, sx_addm, sx_shl, sx_bit1, sx_bit0, fa_or, uA_s, uA_n, sA_s, sA_n, sx_uA, sx_uAn, sx_sAs, pk_us, pk_un, if_true, if_false, if_pos, if_neg, ob_some, Nat.add_zero, Nat.add_sub_cancel, eq_self, ne_eq, not_true, not_false_iff, false_or, true_or, or_false, or_true, false_and, true_and, and_false, and_true]
    exact xd k hk
  · subst ey
    exact ⟨rfl, rfl, fun j hj => by show sA _ 10 _ j = _; rw [sA_n hj], Y, by simp only [sA_s], y⟩
theorem m_foundsBy {M : MS} {b : Nat} {V : VT} (v : VM M b V) (w : WFV V) (hb : b ≤ 86) {p : Nat} (hp : p < vn V) (h12 : vh V ≤ 11) : RT (f_X12_foundsBy M (nI b) (nI p)) (fun r => MR M r b (fdV V p)) := by
  refine RT.cps (fun Q hQ => ?_)
  have wp := w.1
  have b0 := wp.1
  have i1 := v.1
  obtain ⟨X, e, x⟩ := v.can wp.1.1 (by omega)
  obtain ⟨⟨xa, xb⟩, xc, xd⟩ := x
  unfold f_X12_foundsBy f_X12_founds
  rw [show f_X12_leaves M (nI b) (nI p) = _ from (congrArg (fun m => f_X12_leaves m (nI b) (nI p)) e).trans (m_leaves i1 wp.1.1 hb hp)]
  simp (disch := omega) only [bnd_nr, li_0, li_1, li_2, li_3, li_4, li_5, li_6, li_7, li_8, li_9, li_10, li_11, li_12, li_13, li_14, li_15, li_16, li_17, li_18, li_19, li_20, li_21, li_22, li_23, li_24, li_25, li_26, li_27, li_28, li_29, li_30, li_31, li_32, li_33, li_34, li_35, li_36, li_37, li_38, li_39, li_40, li_41, li_42, li_43, li_44, li_45, li_46, li_47, li_48, li_49, li_50, li_51, li_52, li_53, li_54, li_55, li_56, li_57, li_58, li_59, li_60, li_61, li_62, li_63, li_64, li_74, li_86, li_87, li_88, li_96, li_97, li_98, li_99, li_100, li_101, li_102, li_103, li_104, li_105, li_107, li_108, li_109, li_110, li_111, li_112, li_114, li_115, li_116, li_117, li_118, li_121, li_122, li_124, li_136, li_148, li_160, li_680, li_200, li_201, li_255, li_700, li_950, li_1000, li_1400, li_3440, li_4096, li_9999, li_10000, li_20000, li_20033, li_20038, li_20124, li_32767, li_65535, li_1103515245, li_12345, li_m, sx_grd, sx_clamp, nI_add, sx_sub, pk_mul, sx_le, sx_lt, sx_eq, sx_eqm, sx_meq, sx_lem, sx_mle, sx_ltm, sx_mlt, sx_addm, sx_shl, sx_bit1, sx_bit0, fa_or, uA_s, uA_n, sA_s, sA_n, sx_uA, sx_uAn, sx_sAs, pk_us, pk_un, if_true, if_false, if_pos, if_neg, ob_some, Nat.add_zero, Nat.add_sub_cancel, eq_self, ne_eq, not_true, not_false_iff, false_or, true_or, or_false, or_true, false_and, true_and, and_false, and_true, rowf_00, rowf_01, rowf_2, rowf_14, rowf_26, rowf_38, rowf_50, rowf_62, rowf_74, rowf_u00, rowf_u01, rowf_u2, rowf_u14, rowf_u26, rowf_u38, rowf_u50, rowf_u62, rowf_u74, xb]
  refine RT.done hQ ⟨rfl, rfl, fun j hj => by show sA _ 10 _ j = _; rw [sA_n hj], _, by simp only [sA_s]; rfl, ⟨?_, ?_⟩, fun q hq => ?_, fun k hk => ?_⟩
  · simp (disch := omega) only [bnd_nr, li_0, li_1, li_2, li_3, li_4, li_5, li_6, li_7, li_8, li_9, li_10, li_11, li_12, li_13, li_14, li_15, li_16, li_17, li_18, li_19, li_20, li_21, li_22, li_23, li_24, li_25, li_26, li_27, li_28, li_29, li_30, li_31, li_32, li_33, li_34, li_35, li_36, li_37, li_38, li_39, li_40, li_41, li_42, li_43, li_44, li_45, li_46, li_47, li_48, li_49, li_50, li_51, li_52, li_53, li_54, li_55, li_56, li_57, li_58, li_59, li_60, li_61, li_62, li_63, li_64, li_74, li_86, li_87, li_88, li_96, li_97, li_98, li_99, li_100, li_101, li_102, li_103, li_104, li_105, li_107, li_108, li_109, li_110, li_111, li_112, li_114, li_115, li_116, li_117, li_118, li_121, li_122, li_124, li_136, li_148, li_160, li_680, li_200, li_201, li_255, li_700, li_950, li_1000, li_1400, li_3440, li_4096, li_9999, li_10000, li_20000, li_20033, li_20038, li_20124, li_32767, li_65535, li_1103515245, li_12345, li_m, sx_grd, sx_clamp, nI_add, sx_sub, pk_mul, sx_le, sx_lt, sx_eq, sx_eqm, sx_meq, sx_lem, sx_mle, sx_ltm, sx_mlt, sx_addm, sx_shl, sx_bit1, sx_bit0, fa_or, uA_s, uA_n, sA_s, sA_n, sx_uA, sx_uAn, sx_sAs, pk_us, pk_un, if_true, if_false, if_pos, if_neg, ob_some, Nat.add_zero, Nat.add_sub_cancel, eq_self, ne_eq, not_true, not_false_iff, false_or, true_or, or_false, or_true, false_and, true_and, and_false, and_true]; exact xa
  · simp (disch := omega) only [bnd_nr, li_0, li_1, li_2, li_3, li_4, li_5, li_6, li_7, li_8, li_9, li_10, li_11, li_12, li_13, li_14, li_15, li_16, li_17, li_18, li_19, li_20, li_21, li_22, li_23, li_24, li_25, li_26, li_27, li_28, li_29, li_30, li_31, li_32, li_33, li_34, li_35, li_36, li_37, li_38, li_39, li_40, li_41, li_42, li_43, li_44, li_45, li_46, li_47, li_48, li_49, li_50, li_51, li_52, li_53, li_54, li_55, li_56, li_57, li_58, li_59, li_60, li_61, li_62, li_63, li_64, li_74, li_86, li_87, li_88, li_96, li_97, li_98, li_99, li_100, li_101, li_102, li_103, li_104, li_105, li_107, li_108, li_109, li_110, li_111, li_112, li_114, li_115, li_116, li_117, li_118, li_121, li_122, li_124, li_136, li_148, li_160, li_680, li_200, li_201, li_255, li_700, li_950, li_1000, li_1400, li_3440, li_4096, li_9999, li_10000, li_20000, li_20033, li_20038, li_20124, li_32767, li_65535, li_1103515245, li_12345, li_m, sx_grd, sx_clamp, nI_add, sx_sub, pk_mul, sx_le, sx_lt, sx_eq, sx_eqm, sx_meq, sx_lem, sx_mle, sx_ltm, sx_mlt, sx_addm, sx_shl, sx_bit1, sx_bit0, fa_or, uA_s, uA_n, sA_s, sA_n, sx_uA, sx_uAn, sx_sAs, pk_us, pk_un, if_true, if_false, if_pos, if_neg, ob_some, Nat.add_zero, Nat.add_sub_cancel, eq_self, ne_eq, not_true, not_false_iff, false_or, true_or, or_false, or_true, false_and, true_and, and_false, and_true]; rfl
  · have hq : q < vn V := hq
    simp (disch := omega) only [bnd_nr, li_0, li_1, li_2, li_3, li_4, li_5, li_6, li_7, li_8, li_9, li_10, li_11, li_12, li_13, li_14, li_15, li_16, li_17, li_18, li_19, li_20, li_21, li_22, li_23, li_24, li_25, li_26, li_27, li_28, li_29, li_30, li_31, li_32, li_33, li_34, li_35, li_36, li_37, li_38, li_39, li_40, li_41, li_42, li_43, li_44, li_45, li_46, li_47, li_48, li_49, li_50, li_51, li_52, li_53, li_54, li_55, li_56, li_57, li_58, li_59, li_60, li_61, li_62, li_63, li_64, li_74, li_86, li_87, li_88, li_96, li_97, li_98, li_99, li_100, li_101, li_102, li_103, li_104, li_105, li_107, li_108, li_109, li_110, li_111, li_112, li_114, li_115, li_116, li_117, li_118, li_121, li_122, li_124, li_136, li_148, li_160, li_680, li_200, li_201, li_255, li_700, li_950, li_1000, li_1400, li_3440, li_4096, li_9999, li_10000, li_20000, li_20033, li_20038, li_20124, li_32767, li_65535, li_1103515245, li_12345, li_m, sx_grd, sx_clamp, nI_add, sx_sub, pk_mul, sx_le, sx_lt, sx_eq, sx_eqm, sx_meq, sx_lem, sx_mle, sx_ltm, sx_mlt, sx_addm, sx_shl, sx_bit1, sx_bit0, fa_or, uA_s, uA_n, sA_s, sA_n, sx_uA, sx_uAn, sx_sAs, pk_us, pk_un, if_true, if_false, if_pos, if_neg, ob_some, Nat.add_zero, Nat.add_sub_cancel, eq_self, ne_eq, not_true, not_false_iff, false_or, true_or, or_false, or_true, false_and, true_and, and_false, and_true]
    show _ = nI (if q = p then vh V else ho V q) ∧ _ = nI (if q = p then 0 else lv V p q) ∧ _ = nI (if q = p then 0 else si V q) ∧ X 4 q = mv V q ∧ X 5 q = nI (rk V q)
    by_cases d : q = p
    · subst d
      simp (disch := omega) only [bnd_nr, li_0, li_1, li_2, li_3, li_4, li_5, li_6, li_7, li_8, li_9, li_10, li_11, li_12, li_13, li_14, li_15, li_16, li_17, li_18, li_19, li_20, li_21, li_22, li_23, li_24, li_25, li_26, li_27, li_28, li_29, li_30, li_31, li_32, li_33, li_34, li_35, li_36, li_37, li_38, li_39, li_40, li_41, li_42, li_43, li_44, li_45, li_46, li_47, li_48, li_49, li_50, li_51, li_52, li_53, li_54, li_55, li_56, li_57, li_58, li_59, li_60, li_61, li_62, li_63, li_64, li_74, li_86, li_87, li_88, li_96, li_97, li_98, li_99, li_100, li_101, li_102, li_103, li_104, li_105, li_107, li_108, li_109, li_110, li_111, li_112, li_114, li_115, li_116, li_117, li_118, li_121, li_122, li_124, li_136, li_148, li_160, li_680, li_200, li_201, li_255, li_700, li_950, li_1000, li_1400, li_3440, li_4096, li_9999, li_10000, li_20000, li_20033, li_20038, li_20124, li_32767, li_65535, li_1103515245, li_12345, li_m, sx_grd, sx_clamp, nI_add, sx_sub, pk_mul, sx_le, sx_lt, sx_eq, sx_eqm, sx_meq, sx_lem, sx_mle, sx_ltm, sx_mlt, sx_addm, sx_shl, sx_bit1, sx_bit0, fa_or, uA_s, uA_n, sA_s, sA_n, sx_uA, sx_uAn, sx_sAs, pk_us, pk_un, if_true, if_false, if_pos, if_neg, ob_some, Nat.add_zero, Nat.add_sub_cancel, eq_self, ne_eq, not_true, not_false_iff, false_or, true_or, or_false, or_true, false_and, true_and, and_false, and_true]
      exact ⟨(xc q hq).2.2.2.1, (xc q hq).2.2.2.2⟩
    · simp only [pk_un d, if_neg d]
      rw [fa_fill_in hq, cup_lv wp (fun p hp => (xc p hp).1) (fun p hp => (xc p hp).2.1) hp hq]
      exact ⟨(xc q hq).1, rfl, (xc q hq).2.2.1, (xc q hq).2.2.2.1, (xc q hq).2.2.2.2⟩
  · have hk : k < vh V + 1 := hk
    simp (disch := omega) only [bnd_nr, li_0, li_1, li_2, li_3, li_4, li_5, li_6, li_7, li_8, li_9, li_10, li_11, li_12, li_13, li_14, li_15, li_16, li_17, li_18, li_19, li_20, li_21, li_22, li_23, li_24, li_25, li_26, li_27, li_28, li_29, li_30, li_31, li_32, li_33, li_34, li_35, li_36, li_37, li_38, li_39, li_40, li_41, li_42, li_43, li_44, li_45, li_46, li_47, li_48, li_49, li_50, li_51, li_52, li_53, li_54, li_55, li_56, li_57, li_58, li_59, li_60, li_61, li_62, li_63, li_64, li_74, li_86, li_87, li_88, li_96, li_97, li_98, li_99, li_100, li_101, li_102, li_103, li_104, li_105, li_107, li_108, li_109, li_110, li_111, li_112, li_114, li_115, li_116, li_117, li_118, li_121, li_122, li_124, li_136, li_148, li_160, li_680, li_200, li_201, li_255, li_700, li_950, li_1000, li_1400, li_3440, li_4096, li_9999, li_10000, li_20000, li_20033, li_20038, li_20124, li_32767, li_65535, li_1103515245, li_12345, li_m, sx_grd, sx_clamp, nI_add, sx_sub, pk_mul, sx_le, sx_lt, sx_eq, sx_eqm, sx_meq, sx_lem, sx_mle, sx_ltm, sx_mlt, sx_addm, sx_shl, sx_bit1, sx_bit0, fa_or, uA_s, uA_n, sA_s, sA_n, sx_uA, sx_uAn, sx_sAs, pk_us, pk_un, if_true, if_false, if_pos, if_neg, ob_some, Nat.add_zero, Nat.add_sub_cancel, eq_self, ne_eq, not_true, not_false_iff, false_or, true_or, or_false, or_true, false_and, true_and, and_false, and_true]
    show _ = nI (if k = vh V then 0 else ol V k) ∧ _ = (if k = vh V then -1 else idd V k)
    by_cases d : k = vh V
    · subst d
      rw [pk_us, pk_us, if_pos rfl, if_pos rfl]
      exact ⟨rfl, rfl⟩
    · rw [pk_un d, pk_un d, if_neg d, if_neg d]
      exact xd k (by omega)
theorem m_joins {M : MS} {b : Nat} {V : VT} (v : VM M b V) (w : WFV V) (hb : b ≤ 86) {a c : Nat} (ha : a < vh V) (hc : c < vh V) (hn : a ≠ c) : RT (f_X12_joins M (nI b) (nI a) (nI c)) (fun r => MR M r b (dropV (jnV V a c))) := by
  refine RT.cps (fun Q hQ => ?_)
  have wp := w.1
  have b0 := wp.1
  have hhn := w.hn
  have i1 := v.1
  have s0 := sz_le V c
  obtain ⟨X, e, x⟩ := v.can wp.1.1 (by omega)
  obtain ⟨⟨xa, xb⟩, xc, xd⟩ := x
  unfold f_X12_joins
  rw [m_sizeOf v wp hb (by omega), Option.bind_some]
  refine RT.loop0 (fun n i (z : MS) => f_X12_joins_L11 (nI b) (nI a) (nI c) (nI (sz V c)) n (nI i) z) (vn V) (fun i z => z = (M.1, M.2.1, sA M.2.2 10 (rowf (M.2.2 10) b (sA (sA (sA X 1 (fa_fill (fun q => nI (if ho V q = a then c else ho V q)) (X 1) i)) 2 (fa_fill (fun q => nI (if ho V q = a then pl V q + sz V c else pl V q)) (X 2) i)) 3 (fa_fill (fun q => nI (if ho V q = a then 0 else si V q)) (X 3) i))))) _ _ (by omega) ?_ ?_ ?_
  · rw [fa_fill_0, fa_fill_0, fa_fill_0, sA_self, show sA X 2 (X 2) = X from sA_self, show sA X 3 (X 3) = X from sA_self]
    exact e
  · intro n z ez; subst ez
    show RT (f_X12_joins_L11 (nI b) (nI a) (nI c) (nI (sz V c)) (n + 1) (nI (vn V)) _) _
    unfold f_X12_joins_L11
    simp (disch := omega) only [bnd_nr, li_0, li_1, li_2, li_3, li_4, li_5, li_6, li_7, li_8, li_9, li_10, li_11, li_12, li_13, li_14, li_15, li_16, li_17, li_18, li_19, li_20, li_21, li_22, li_23, li_24, li_25, li_26, li_27, li_28, li_29, li_30, li_31, li_32, li_33, li_34, li_35, li_36, li_37, li_38, li_39, li_40, li_41, li_42, li_43, li_44, li_45, li_46, li_47, li_48, li_49, li_50, li_51, li_52, li_53, li_54, li_55, li_56, li_57, li_58, li_59, li_60, li_61, li_62, li_63, li_64, li_74, li_86, li_87, li_88, li_96, li_97, li_98, li_99, li_100, li_101, li_102, li_103, li_104, li_105, li_107, li_108, li_109, li_110, li_111, li_112, li_114, li_115, li_116, li_117, li_118, li_121, li_122, li_124, li_136, li_148, li_160, li_680, li_200, li_201, li_255, li_700, li_950, li_1000, li_1400, li_3440, li_4096, li_9999, li_10000, li_20000, li_20033, li_20038, li_20124, li_32767, li_65535, li_1103515245, li_12345, li_m, sx_grd, sx_clamp, nI_add, sx_sub, pk_mul, sx_le, sx_lt, sx_eq, sx_eqm, sx_meq, sx_lem, sx_mle, sx_ltm, sx_mlt, sx_addm, sx_shl, sx_bit1, sx_bit0, fa_or, uA_s, uA_n, sA_s, sA_n, sx_uA, sx_uAn, sx_sAs, pk_us, pk_un, if_true, if_false, if_pos, if_neg, ob_some, Nat.add_zero, Nat.add_sub_cancel, eq_self, ne_eq, not_true, not_false_iff, false_or, true_or, or_false, or_true, false_and, true_and, and_false, and_true, rowf_00, rowf_01, rowf_2, rowf_14, rowf_26, rowf_38, rowf_50, rowf_62, rowf_74, rowf_u00, rowf_u01, rowf_u2, rowf_u14, rowf_u26, rowf_u38, rowf_u50, rowf_u62, rowf_u74, i1]
    refine RT.bind (m_falls (U := jnV V a c) i1 (WFP_jn w ha hc hn) hb (show vh V ≤ 12 by omega) ⟨⟨?_, ?_⟩, fun q hq => ?_, fun k hk => ?_⟩) (fun q ⟨Y, ey, y⟩ => RT.done hQ ?_)
    · simp (disch := omega) only [bnd_nr, li_0, li_1, li_2, li_3, li_4, li_5, li_6, li_7, li_8, li_9, li_10, li_11, li_12, li_13, li_14, li_15, li_16, li_17, li_18, li_19, li_20, li_21, li_22, li_23, li_24, li_25, li_26, li_27, li_28, li_29, li_30, li_31, li_32, li_33, li_34, li_35, li_36, li_37, li_38, li_39, li_40, li_41, li_42, li_43, li_44, li_45, li_46, li_47, li_48, li_49, li_50, li_51, li_52, li_53, li_54, li_55, li_56, li_57, li_58, li_59, li_60, li_61, li_62, li_63, li_64, li_74, li_86, li_87, li_88, li_96, li_97, li_98, li_99, li_100, li_101, li_102, li_103, li_104, li_105, li_107, li_108, li_109, li_110, li_111, li_112, li_114, li_115, li_116, li_117, li_118, li_121, li_122, li_124, li_136, li_148, li_160, li_680, li_200, li_201, li_255, li_700, li_950, li_1000, li_1400, li_3440, li_4096, li_9999, li_10000, li_20000, li_20033, li_20038, li_20124, li_32767, li_65535, li_1103515245, li_12345, li_m, sx_grd, sx_clamp, nI_add, sx_sub, pk_mul, sx_le, sx_lt, sx_eq, sx_eqm, sx_meq, sx_lem, sx_mle, sx_ltm, sx_mlt, sx_addm, sx_shl, sx_bit1, sx_bit0, fa_or, uA_s, uA_n, sA_s, sA_n, sx_uA, sx_uAn, sx_sAs, pk_us, pk_un, if_true, if_false, if_pos, if_neg, ob_some, Nat.add_zero, Nat.add_sub_cancel, eq_self, ne_eq, not_true, not_false_iff, false_or, true_or, or_false, or_true, false_and, true_and, and_false, and_true]; exact xa
    · simp (disch := omega) only [bnd_nr, li_0, li_1, li_2, li_3, li_4, li_5, li_6, li_7, li_8, li_9, li_10, li_11, li_12, li_13, li_14, li_15, li_16, li_17, li_18, li_19, li_20, li_21, li_22, li_23, li_24, li_25, li_26, li_27, li_28, li_29, li_30, li_31, li_32, li_33, li_34, li_35, li_36, li_37, li_38, li_39, li_40, li_41, li_42, li_43, li_44, li_45, li_46, li_47, li_48, li_49, li_50, li_51, li_52, li_53, li_54, li_55, li_56, li_57, li_58, li_59, li_60, li_61, li_62, li_63, li_64, li_74, li_86, li_87, li_88, li_96, li_97, li_98, li_99, li_100, li_101, li_102, li_103, li_104, li_105, li_107, li_108, li_109, li_110, li_111, li_112, li_114, li_115, li_116, li_117, li_118, li_121, li_122, li_124, li_136, li_148, li_160, li_680, li_200, li_201, li_255, li_700, li_950, li_1000, li_1400, li_3440, li_4096, li_9999, li_10000, li_20000, li_20033, li_20038, li_20124, li_32767, li_65535, li_1103515245, li_12345, li_m, sx_grd, sx_clamp, nI_add, sx_sub, pk_mul, sx_le, sx_lt, sx_eq, sx_eqm, sx_meq, sx_lem, sx_mle, sx_ltm, sx_mlt, sx_addm, sx_shl, sx_bit1, sx_bit0, fa_or, uA_s, uA_n, sA_s, sA_n, sx_uA, sx_uAn, sx_sAs, pk_us, pk_un, if_true, if_false, if_pos, if_neg, ob_some, Nat.add_zero, Nat.add_sub_cancel, eq_self, ne_eq, not_true, not_false_iff, false_or, true_or, or_false, or_true, false_and, true_and, and_false, and_true]; exact xb
    · have hq : q < vn V := hq
      simp (disch := omega) only [bnd_nr, li_0, li_1, li_2, li_3, li_4, li_5, li_6, li_7, li_8, li_9, li_10, li_11, li_12, li_13, li_14, li_15, li_16, li_17, li_18, li_19, li_20, li_21, li_22, li_23, li_24, li_25, li_26, li_27, li_28, li_29, li_30, li_31, li_32, li_33, li_34, li_35, li_36, li_37, li_38, li_39, li_40, li_41, li_42, li_43, li_44, li_45, li_46, li_47, li_48, li_49, li_50, li_51, li_52, li_53, li_54, li_55, li_56, li_57, li_58, li_59, li_60, li_61, li_62, li_63, li_64, li_74, li_86, li_87, li_88, li_96, li_97, li_98, li_99, li_100, li_101, li_102, li_103, li_104, li_105, li_107, li_108, li_109, li_110, li_111, li_112, li_114, li_115, li_116, li_117, li_118, li_121, li_122, li_124, li_136, li_148, li_160, li_680, li_200, li_201, li_255, li_700, li_950, li_1000, li_1400, li_3440, li_4096, li_9999, li_10000, li_20000, li_20033, li_20038, li_20124, li_32767, li_65535, li_1103515245, li_12345, li_m, sx_grd, sx_clamp, nI_add, sx_sub, pk_mul, sx_le, sx_lt, sx_eq, sx_eqm, sx_meq, sx_lem, sx_mle, sx_ltm, sx_mlt, sx_addm, sx_shl, sx_bit1, sx_bit0, fa_or, uA_s, uA_n, sA_s, sA_n, sx_uA, sx_uAn, sx_sAs, pk_us, pk_un, if_true, if_false, if_pos, if_neg, ob_some, Nat.add_zero, Nat.add_sub_cancel, eq_self, ne_eq, not_true, not_false_iff, false_or, true_or, or_false, or_true, false_and, true_and, and_false, and_true, fa_fill_in hq]
      exact ⟨rfl, rfl, rfl, (xc q hq).2.2.2.1, (xc q hq).2.2.2.2⟩
    · simp (disch := omega) only [bnd_nr, li_0, li_1, li_2, li_3, li_4, li_5, li_6, li_7, li_8, li_9, li_10, li_11, li_12, li_13, li_14, li_15, li_16, li_17, li_18, li_19, li_20, li_21, li_22, li_23, li_24, li_25, li_26, li_27, li_28, li_29, li_30, li_31, li_32, li_33, li_34, li_35, li_36, li_37, li_38, li_39, li_40, li_41, li_42, li_43, li_44, li_45, li_46, li_47, li_48, li_49, li_50, li_51, li_52, li_53, li_54, li_55, li_56, li_57, li_58, li_59, li_60, li_61, li_62, li_63, li_64, li_74, li_86, li_87, li_88, li_96, li_97, li_98, li_99, li_100, li_101, li_102, li_103, li_104, li_105, li_107, li_108, li_109, li_110, li_111, li_112, li_114, li_115, li_116, li_117, li_118, li_121, li_122, li_124, li_136, li_148, li_160, li_680, li_200, li_201, li_255, li_700, li_950, li_1000, li_1400, li_3440, li_4096, li_9999, li_10000, li_20000, li_20033, li_20038, li_20124, li_32767, li_65535, li_1103515245, li_12345, li_m, sx_grd, sx_clamp, nI_add, sx_sub, pk_mul, sx_le, sx_lt, sx_eq, sx_eqm, sx_meq, sx_lem, sx_mle, sx_ltm, sx_mlt, sx_addm, sx_shl, sx_bit1, sx_bit0, fa_or, uA_s, uA_n, sA_s, sA_n, sx_uA, sx_uAn, sx_sAs, pk_us, pk_un, if_true, if_false, if_pos, if_neg, ob_some, Nat.add_zero, Nat.add_sub_cancel, eq_self, ne_eq, not_true, not_false_iff, false_or, true_or, or_false, or_true, false_and, true_and, and_false, and_true]
      exact xd k hk
    · subst ey
      exact ⟨rfl, rfl, fun j hj => by show sA _ 10 _ j = _; rw [sA_n hj], Y, by simp only [sA_s], y⟩
  · intro n i z hi ez hk; subst ez
    show RT (f_X12_joins_L11 (nI b) (nI a) (nI c) (nI (sz V c)) (n + 1) (nI i) _) _
    obtain ⟨q1, q2, q3, q4, q5⟩ := xc i hi
    have b1 := wp.2.1 i hi
    have s1 := sz_le V (ho V i)
    unfold f_X12_joins_L11
    simp (disch := omega) only [bnd_nr, li_0, li_1, li_2, li_3, li_4, li_5, li_6, li_7, li_8, li_9, li_10, li_11, li_12, li_13, li_14, li_15, li_16, li_17, li_18, li_19, li_20, li_21, li_22, li_23, li_24, li_25, li_26, li_27, li_28, li_29, li_30, li_31, li_32, li_33, li_34, li_35, li_36, li_37, li_38, li_39, li_40, li_41, li_42, li_43, li_44, li_45, li_46, li_47, li_48, li_49, li_50, li_51, li_52, li_53, li_54, li_55, li_56, li_57, li_58, li_59, li_60, li_61, li_62, li_63, li_64, li_74, li_86, li_87, li_88, li_96, li_97, li_98, li_99, li_100, li_101, li_102, li_103, li_104, li_105, li_107, li_108, li_109, li_110, li_111, li_112, li_114, li_115, li_116, li_117, li_118, li_121, li_122, li_124, li_136, li_148, li_160, li_680, li_200, li_201, li_255, li_700, li_950, li_1000, li_1400, li_3440, li_4096, li_9999, li_10000, li_20000, li_20033, li_20038, li_20124, li_32767, li_65535, li_1103515245, li_12345, li_m, sx_grd, sx_clamp, nI_add, sx_sub, pk_mul, sx_le, sx_lt, sx_eq, sx_eqm, sx_meq, sx_lem, sx_mle, sx_ltm, sx_mlt, sx_addm, sx_shl, sx_bit1, sx_bit0, fa_or, uA_s, uA_n, sA_s, sA_n, sx_uA, sx_uAn, sx_sAs, pk_us, pk_un, if_true, if_false, if_pos, if_neg, ob_some, Nat.add_zero, Nat.add_sub_cancel, eq_self, ne_eq, not_true, not_false_iff, false_or, true_or, or_false, or_true, false_and, true_and, and_false, and_true, rowf_00, rowf_01, rowf_2, rowf_14, rowf_26, rowf_38, rowf_50, rowf_62, rowf_74, rowf_u00, rowf_u01, rowf_u2, rowf_u14, rowf_u26, rowf_u38, rowf_u50, rowf_u62, rowf_u74, i1, fill_at, q1, q2]
    refine RT.ite (fun d => hk _ ?_) (fun d => hk _ ?_)
    · rw [fill_up (by rw [if_pos d]), fill_up (by rw [if_pos d]), fill_up (by rw [if_pos d])]
    · rw [fill_keep (by rw [if_neg d, q1]), fill_keep (by rw [if_neg d, q2]), fill_keep (by rw [if_neg d, q3])]
