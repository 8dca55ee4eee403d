def CI (E : RE) (H : Nat → Bool) (V : VT) (i h : Nat) (L B : Int32) : Prop := (L = mO ∧ ∀ q, q < i → ho V q = h → kb E V h = true ∨ H q = true) ∨ ∃ p, p < i ∧ L = nI p ∧ ho V p = h ∧ kb E V h = false ∧ H p = false ∧ (B = wr E V p ∨ sz V h ≤ 1) ∧ ∀ q, q < i → ho V q = h → H q = false → bts E V p q = true
theorem CI_skip {E : RE} {H : Nat → Bool} {V : VT} {i h : Nat} {L B : Int32} (c : CI E H V i h L B) (n : ho V i = h → kb E V h = true ∨ H i = true) : CI E H V (i + 1) h L B := by
  rcases c with ⟨c1, c2⟩ | ⟨p, p1, p2, p3, p4, p5, p6, p7⟩
  · refine Or.inl ⟨c1, fun q hq e => ?_⟩
    rcases Nat.lt_or_ge q i with d | d
    · exact c2 q d e
    · have : q = i := by omega
      subst this; exact n e
  · refine Or.inr ⟨p, by omega, p2, p3, p4, p5, p6, fun q hq e hH => ?_⟩
    rcases Nat.lt_or_ge q i with d | d
    · exact p7 q d e hH
    · have : q = i := by omega
      subst this
      rcases n e with z | z
      · rw [p4] at z; cases z
      · rw [hH] at z; cases z
theorem bts_refl {E : RE} {V : VT} (p : Nat) : bts E V p p = true := bts_iff.mpr (Or.inr ⟨rfl, Nat.le_refl _⟩)
theorem CI_first {E : RE} {H : Nat → Bool} {V : VT} {i h : Nat} {B x : Int32} (c : CI E H V i h mO B) (e : ho V i = h) (k : kb E V h = false) (hH : H i = false) (hx : x = wr E V i ∨ sz V h ≤ 1) (hi : i < 2147483648) : CI E H V (i + 1) h (nI i) x := by
  rcases c with ⟨c1, c2⟩ | ⟨p, p1, p2, p3, p4, p5, p6, p7⟩
  · refine Or.inr ⟨i, by omega, rfl, e, k, hH, hx, fun q hq e2 h2 => ?_⟩
    rcases Nat.lt_or_ge q i with d | d
    · rcases c2 q d e2 with z | z
      · rw [k] at z; cases z
      · rw [h2] at z; cases z
    · have : q = i := by omega
      subst this; exact bts_refl _
  · have : (mO = nI p) = False := sx_meq (by omega)
    rw [this] at p2; exact p2.elim
theorem CI_new {E : RE} {H : Nat → Bool} {V : VT} {i h p : Nat} {x : Int32} (p7 : ∀ q, q < i → ho V q = h → H q = false → bts E V p q = true) (e : ho V i = h) (k : kb E V h = false) (hH : H i = false) (hx : x = wr E V i ∨ sz V h ≤ 1) (hb : bts E V i p = true) : CI E H V (i + 1) h (nI i) x := by
  refine Or.inr ⟨i, by omega, rfl, e, k, hH, hx, fun q hq e2 h2 => ?_⟩
  rcases Nat.lt_or_ge q i with d | d
  · have a := bts_iff.mp (p7 q d e2 h2)
    have b := bts_iff.mp hb
    exact bts_iff.mpr (by omega)
  · have : q = i := by omega
    subst this; exact bts_refl _
theorem CI_old {E : RE} {H : Nat → Bool} {V : VT} {i h p : Nat} {B : Int32} (p1 : p < i) (p3 : ho V p = h) (k : kb E V h = false) (hH : H p = false) (p6 : B = wr E V p ∨ sz V h ≤ 1) (p7 : ∀ q, q < i → ho V q = h → H q = false → bts E V p q = true) (hb : bts E V p i = true) : CI E H V (i + 1) h (nI p) B := by
  refine Or.inr ⟨p, by omega, rfl, p3, k, hH, p6, fun q hq e2 h2 => ?_⟩
  rcases Nat.lt_or_ge q i with d | d
  · exact p7 q d e2 h2
  · have : q = i := by omega
    subst this; exact hb
theorem CI_end {E : RE} {H : Nat → Bool} {V : VT} {h : Nat} {L B : Int32} (c : CI E H V (vn V) h L B) : GR (goB E H V) V h L := by
  rcases c with ⟨c1, c2⟩ | ⟨p, p1, p2, p3, p4, p5, p6, p7⟩
  · refine Or.inl ⟨c1, fun p hp e => Bool.eq_false_iff.mpr (fun g => ?_)⟩
    obtain ⟨g1, g2, g3⟩ := goB_iff.mp g
    rcases c2 p hp e with z | z
    · rw [e, z] at g1; cases g1
    · rw [z] at g2; cases g2
  · refine Or.inr ⟨p, p1, p2, p3, goB_iff.mpr ⟨by rw [p3]; exact p4, p5, fun q hq e => p7 q hq (by rw [e, p3])⟩⟩
theorem c_choose1 {D Rp Rk v : Ob} {E : RE} {V : VT} {Hm K : Nat} (c : VC v V) (w : WFP V) (k : EOK E) (h1 : RCo Rp E.1) (hm : Hm < 2147483648) (hK : K < 2147483648) (hkb : ∀ h, h < vh V → K.testBit h = kb E V h) : RT (f_X2_choose_J19 v (nI Hm) (nI K) D Rp Rk) (fun q => (∀ h, h < vh V → GR (goB E Hm.testBit V) V h (q.1.2 1 h)) ∧ q.1.1 = D.1 ∧ RCo q.2.1 E.1 ∧ q.2.2 = Rk) := by
  refine RT.cps (fun Q hQ => ?_)
  have b0 := w.1
  unfold f_X2_choose_J19
  rw [j_fill _ (by omega)]
  simp (disch := omega) only [bnd_nr, li_0, li_1, li_2, li_3, li_4, li_5, li_6, li_7, li_8, li_9, li_10, li_11, li_12, li_13, li_14, li_15, li_16, li_17, li_18, li_19, li_20, li_21, li_22, li_23, li_24, li_25, li_26, li_27, li_28, li_29, li_30, li_31, li_32, li_33, li_34, li_35, li_36, li_37, li_38, li_39, li_40, li_41, li_42, li_43, li_44, li_45, li_46, li_47, li_48, li_49, li_50, li_51, li_52, li_53, li_54, li_55, li_56, li_57, li_58, li_59, li_60, li_61, li_62, li_63, li_64, li_74, li_86, li_87, li_88, li_96, li_97, li_98, li_99, li_100, li_101, li_102, li_103, li_104, li_105, li_107, li_108, li_109, li_110, li_111, li_112, li_114, li_115, li_116, li_117, li_118, li_121, li_122, li_124, li_136, li_148, li_160, li_680, li_200, li_201, li_255, li_700, li_950, li_1000, li_1400, li_3440, li_4096, li_9999, li_10000, li_20000, li_20033, li_20038, li_20124, li_32767, li_65535, li_1103515245, li_12345, li_m, sx_grd, sx_clamp, nI_add, sx_sub, pk_mul, sx_le, sx_lt, sx_eq, sx_eqm, sx_meq, sx_lem, sx_mle, sx_ltm, sx_mlt, sx_addm, sx_shl, sx_bit1, sx_bit0, fa_or, uA_s, uA_n, sA_s, sA_n, sx_uA, sx_uAn, sx_sAs, pk_us, pk_un, if_true, if_false, if_pos, if_neg, ob_some, Nat.add_zero, Nat.add_sub_cancel, eq_self, ne_eq, not_true, not_false_iff, false_or, true_or, or_false, or_true, false_and, true_and, and_false, and_true]
  refine RT.loop0_3 (fun n i (z0 z1 z2 : Ob) => f_X2_choose_L31 (nI Hm) (nI K) v n (nI i) z0 z1 z2) (vn V) (fun i z0 z1 z2 => z2 = Rk ∧ RCo z1 E.1 ∧ z0.1 = D.1 ∧ ∀ h, h < vh V → CI E Hm.testBit V i h (z0.2 1 h) (z0.2 2 h)) _ _ _ _ (by omega) ?_ ?_ ?_
  · refine ⟨rfl, h1, rfl, fun h hh => Or.inl ⟨?_, fun q hq => absurd hq (Nat.not_lt_zero _)⟩⟩
    simp (disch := omega) only [bnd_nr, li_0, li_1, li_2, li_3, li_4, li_5, li_6, li_7, li_8, li_9, li_10, li_11, li_12, li_13, li_14, li_15, li_16, li_17, li_18, li_19, li_20, li_21, li_22, li_23, li_24, li_25, li_26, li_27, li_28, li_29, li_30, li_31, li_32, li_33, li_34, li_35, li_36, li_37, li_38, li_39, li_40, li_41, li_42, li_43, li_44, li_45, li_46, li_47, li_48, li_49, li_50, li_51, li_52, li_53, li_54, li_55, li_56, li_57, li_58, li_59, li_60, li_61, li_62, li_63, li_64, li_74, li_86, li_87, li_88, li_96, li_97, li_98, li_99, li_100, li_101, li_102, li_103, li_104, li_105, li_107, li_108, li_109, li_110, li_111, li_112, li_114, li_115, li_116, li_117, li_118, li_121, li_122, li_124, li_136, li_148, li_160, li_680, li_200, li_201, li_255, li_700, li_950, li_1000, li_1400, li_3440, li_4096, li_9999, li_10000, li_20000, li_20033, li_20038, li_20124, li_32767, li_65535, li_1103515245, li_12345, li_m, sx_grd, sx_clamp, nI_add, sx_sub, pk_mul, sx_le, sx_lt, sx_eq, sx_eqm, sx_meq, sx_lem, sx_mle, sx_ltm, sx_mlt, sx_addm, sx_shl, sx_bit1, sx_bit0, fa_or, uA_s, uA_n, sA_s, sA_n, sx_uA, sx_uAn, sx_sAs, pk_us, pk_un, if_true, if_false, if_pos, if_neg, ob_some, Nat.add_zero, Nat.add_sub_cancel, eq_self, ne_eq, not_true, not_false_iff, false_or, true_or, or_false, or_true, false_and, true_and, and_false, and_true]
    rw [fa_fill_in (by omega)]
  · intro n z0 z1 z2 ⟨e1, e2, e3, e4⟩
    show RT (f_X2_choose_L31 (nI Hm) (nI K) v (n + 1) (nI (vn V)) z0 z1 z2) _
    unfold f_X2_choose_L31
    simp (disch := omega) only [bnd_nr, li_0, li_1, li_2, li_3, li_4, li_5, li_6, li_7, li_8, li_9, li_10, li_11, li_12, li_13, li_14, li_15, li_16, li_17, li_18, li_19, li_20, li_21, li_22, li_23, li_24, li_25, li_26, li_27, li_28, li_29, li_30, li_31, li_32, li_33, li_34, li_35, li_36, li_37, li_38, li_39, li_40, li_41, li_42, li_43, li_44, li_45, li_46, li_47, li_48, li_49, li_50, li_51, li_52, li_53, li_54, li_55, li_56, li_57, li_58, li_59, li_60, li_61, li_62, li_63, li_64, li_74, li_86, li_87, li_88, li_96, li_97, li_98, li_99, li_100, li_101, li_102, li_103, li_104, li_105, li_107, li_108, li_109, li_110, li_111, li_112, li_114, li_115, li_116, li_117, li_118, li_121, li_122, li_124, li_136, li_148, li_160, li_680, li_200, li_201, li_255, li_700, li_950, li_1000, li_1400, li_3440, li_4096, li_9999, li_10000, li_20000, li_20033, li_20038, li_20124, li_32767, li_65535, li_1103515245, li_12345, li_m, sx_grd, sx_clamp, nI_add, sx_sub, pk_mul, sx_le, sx_lt, sx_eq, sx_eqm, sx_meq, sx_lem, sx_mle, sx_ltm, sx_mlt, sx_addm, sx_shl, sx_bit1, sx_bit0, fa_or, uA_s, uA_n, sA_s, sA_n, sx_uA, sx_uAn, sx_sAs, pk_us, pk_un, if_true, if_false, if_pos, if_neg, ob_some, Nat.add_zero, Nat.add_sub_cancel, eq_self, ne_eq, not_true, not_false_iff, false_or, true_or, or_false, or_true, false_and, true_and, and_false, and_true, c.1.1]
    exact RT.done hQ ⟨fun h hh => CI_end (e4 h hh), e3, e2, e1⟩
  · intro n i z0 z1 z2 hi ⟨e1, e2, e3, e4⟩ hk; subst e1
    show RT (f_X2_choose_L31 (nI Hm) (nI K) v (n + 1) (nI i) z0 z1 z2) _
    obtain ⟨b1, b2, b3, b4⟩ := w.2.1 i hi
    have s1 := sz_le V (ho V i)
    have key : ∀ (x : Int32) (z0 z1 : Ob), kb E V (ho V i) = false → Hm.testBit i = false → (x = wr E V i ∨ sz V (ho V i) ≤ 1) → z0.1 = D.1 → (∀ h, h < vh V → CI E Hm.testBit V i h (z0.2 1 h) (z0.2 2 h)) → RCo z1 E.1 → RT (f_X2_choose_J99 (f_X2_choose_L31 (nI Hm) (nI K) v n) (nI Hm) (nI K) v (nI i) (nI (ho V i)) x z0 z1 z2) Q := by
      intro x z0 z1 kb0 hH hx e3 e4 e2
      have stay : (∀ h, h < vh V → CI E Hm.testBit V (i + 1) h (z0.2 1 h) (z0.2 2 h)) → RT (f_X2_choose_L31 (nI Hm) (nI K) v n (nI (i + 1)) z0 z1 z2) Q := fun e5 => hk _ _ _ ⟨rfl, e2, e3, e5⟩
      have set : CI E Hm.testBit V (i + 1) (ho V i) (nI i) x → RT (f_X2_choose_J157 (f_X2_choose_L31 (nI Hm) (nI K) v n) (nI Hm) (nI K) v (nI i) (nI (ho V i)) x z0 z1 z2) Q := by
        intro ci
        unfold f_X2_choose_J157
        simp (disch := omega) only [bnd_nr, li_0, li_1, li_2, li_3, li_4, li_5, li_6, li_7, li_8, li_9, li_10, li_11, li_12, li_13, li_14, li_15, li_16, li_17, li_18, li_19, li_20, li_21, li_22, li_23, li_24, li_25, li_26, li_27, li_28, li_29, li_30, li_31, li_32, li_33, li_34, li_35, li_36, li_37, li_38, li_39, li_40, li_41, li_42, li_43, li_44, li_45, li_46, li_47, li_48, li_49, li_50, li_51, li_52, li_53, li_54, li_55, li_56, li_57, li_58, li_59, li_60, li_61, li_62, li_63, li_64, li_74, li_86, li_87, li_88, li_96, li_97, li_98, li_99, li_100, li_101, li_102, li_103, li_104, li_105, li_107, li_108, li_109, li_110, li_111, li_112, li_114, li_115, li_116, li_117, li_118, li_121, li_122, li_124, li_136, li_148, li_160, li_680, li_200, li_201, li_255, li_700, li_950, li_1000, li_1400, li_3440, li_4096, li_9999, li_10000, li_20000, li_20033, li_20038, li_20124, li_32767, li_65535, li_1103515245, li_12345, li_m, sx_grd, sx_clamp, nI_add, sx_sub, pk_mul, sx_le, sx_lt, sx_eq, sx_eqm, sx_meq, sx_lem, sx_mle, sx_ltm, sx_mlt, sx_addm, sx_shl, sx_bit1, sx_bit0, fa_or, uA_s, uA_n, sA_s, sA_n, sx_uA, sx_uAn, sx_sAs, pk_us, pk_un, if_true, if_false, if_pos, if_neg, ob_some, Nat.add_zero, Nat.add_sub_cancel, eq_self, ne_eq, not_true, not_false_iff, false_or, true_or, or_false, or_true, false_and, true_and, and_false, and_true]
        refine hk _ _ _ ⟨rfl, e2, e3, fun h hh => ?_⟩
        simp (disch := omega) only [bnd_nr, li_0, li_1, li_2, li_3, li_4, li_5, li_6, li_7, li_8, li_9, li_10, li_11, li_12, li_13, li_14, li_15, li_16, li_17, li_18, li_19, li_20, li_21, li_22, li_23, li_24, li_25, li_26, li_27, li_28, li_29, li_30, li_31, li_32, li_33, li_34, li_35, li_36, li_37, li_38, li_39, li_40, li_41, li_42, li_43, li_44, li_45, li_46, li_47, li_48, li_49, li_50, li_51, li_52, li_53, li_54, li_55, li_56, li_57, li_58, li_59, li_60, li_61, li_62, li_63, li_64, li_74, li_86, li_87, li_88, li_96, li_97, li_98, li_99, li_100, li_101, li_102, li_103, li_104, li_105, li_107, li_108, li_109, li_110, li_111, li_112, li_114, li_115, li_116, li_117, li_118, li_121, li_122, li_124, li_136, li_148, li_160, li_680, li_200, li_201, li_255, li_700, li_950, li_1000, li_1400, li_3440, li_4096, li_9999, li_10000, li_20000, li_20033, li_20038, li_20124, li_32767, li_65535, li_1103515245, li_12345, li_m, sx_grd, sx_clamp, nI_add, sx_sub, pk_mul, sx_le, sx_lt, sx_eq, sx_eqm, sx_meq, sx_lem, sx_mle, sx_ltm, sx_mlt, sx_addm, sx_shl, sx_bit1, sx_bit0, fa_or, uA_s, uA_n, sA_s, sA_n, sx_uA, sx_uAn, sx_sAs, pk_us, pk_un, if_true, if_false, if_pos, if_neg, ob_some, Nat.add_zero, Nat.add_sub_cancel, eq_self, ne_eq, not_true, not_false_iff, false_or, true_or, or_false, or_true, false_and, true_and, and_false, and_true]
        by_cases q : h = ho V i
        · subst q; rw [pk_us, pk_us]; exact ci
        · rw [pk_un q, pk_un q]; exact CI_skip (e4 h hh) (fun z => absurd z.symm q)
      have other : ∀ h, h < vh V → h ≠ ho V i → CI E Hm.testBit V (i + 1) h (z0.2 1 h) (z0.2 2 h) := fun h hh q => CI_skip (e4 h hh) (fun z => absurd z.symm q)
      have ci := e4 (ho V i) b1
      unfold f_X2_choose_J99
      rcases ci with ⟨c1, c2⟩ | ⟨p, p1, p2, p3, p4, p5, p6, p7⟩
      · have ci2 : CI E Hm.testBit V i (ho V i) mO (z0.2 2 (ho V i)) := Or.inl ⟨rfl, c2⟩
        simp (disch := omega) only [bnd_nr, li_0, li_1, li_2, li_3, li_4, li_5, li_6, li_7, li_8, li_9, li_10, li_11, li_12, li_13, li_14, li_15, li_16, li_17, li_18, li_19, li_20, li_21, li_22, li_23, li_24, li_25, li_26, li_27, li_28, li_29, li_30, li_31, li_32, li_33, li_34, li_35, li_36, li_37, li_38, li_39, li_40, li_41, li_42, li_43, li_44, li_45, li_46, li_47, li_48, li_49, li_50, li_51, li_52, li_53, li_54, li_55, li_56, li_57, li_58, li_59, li_60, li_61, li_62, li_63, li_64, li_74, li_86, li_87, li_88, li_96, li_97, li_98, li_99, li_100, li_101, li_102, li_103, li_104, li_105, li_107, li_108, li_109, li_110, li_111, li_112, li_114, li_115, li_116, li_117, li_118, li_121, li_122, li_124, li_136, li_148, li_160, li_680, li_200, li_201, li_255, li_700, li_950, li_1000, li_1400, li_3440, li_4096, li_9999, li_10000, li_20000, li_20033, li_20038, li_20124, li_32767, li_65535, li_1103515245, li_12345, li_m, sx_grd, sx_clamp, nI_add, sx_sub, pk_mul, sx_le, sx_lt, sx_eq, sx_eqm, sx_meq, sx_lem, sx_mle, sx_ltm, sx_mlt, sx_addm, sx_shl, sx_bit1, sx_bit0, fa_or, uA_s, uA_n, sA_s, sA_n, sx_uA, sx_uAn, sx_sAs, pk_us, pk_un, if_true, if_false, if_pos, if_neg, ob_some, Nat.add_zero, Nat.add_sub_cancel, eq_self, ne_eq, not_true, not_false_iff, false_or, true_or, or_false, or_true, false_and, true_and, and_false, and_true, c1]
        exact set (CI_first ci2 rfl kb0 hH hx (by omega))
      · have s2 := two_sz w (show p < vn V by omega) hi p3 (by omega)
        rw [p3] at s2
        have B : z0.2 2 (ho V i) = wr E V p := p6.resolve_right (by omega)
        have x1 : x = wr E V i := hx.resolve_right (by omega)
        have hpp := w.2.1 p (by omega)
        have s3 := sz_le V (ho V p)
        simp (disch := omega) only [bnd_nr, li_0, li_1, li_2, li_3, li_4, li_5, li_6, li_7, li_8, li_9, li_10, li_11, li_12, li_13, li_14, li_15, li_16, li_17, li_18, li_19, li_20, li_21, li_22, li_23, li_24, li_25, li_26, li_27, li_28, li_29, li_30, li_31, li_32, li_33, li_34, li_35, li_36, li_37, li_38, li_39, li_40, li_41, li_42, li_43, li_44, li_45, li_46, li_47, li_48, li_49, li_50, li_51, li_52, li_53, li_54, li_55, li_56, li_57, li_58, li_59, li_60, li_61, li_62, li_63, li_64, li_74, li_86, li_87, li_88, li_96, li_97, li_98, li_99, li_100, li_101, li_102, li_103, li_104, li_105, li_107, li_108, li_109, li_110, li_111, li_112, li_114, li_115, li_116, li_117, li_118, li_121, li_122, li_124, li_136, li_148, li_160, li_680, li_200, li_201, li_255, li_700, li_950, li_1000, li_1400, li_3440, li_4096, li_9999, li_10000, li_20000, li_20033, li_20038, li_20124, li_32767, li_65535, li_1103515245, li_12345, li_m, sx_grd, sx_clamp, nI_add, sx_sub, pk_mul, sx_le, sx_lt, sx_eq, sx_eqm, sx_meq, sx_lem, sx_mle, sx_ltm, sx_mlt, sx_addm, sx_shl, sx_bit1, sx_bit0, fa_or, uA_s, uA_n, sA_s, sA_n, sx_uA, sx_uAn, sx_sAs, pk_us, pk_un, if_true, if_false, if_pos, if_neg, ob_some, Nat.add_zero, Nat.add_sub_cancel, eq_self, ne_eq, not_true, not_false_iff, false_or, true_or, or_false, or_true, false_and, true_and, and_false, and_true, p2, B, x1, c.p i hi, c.p p (by omega)]
        rw [x1] at set
        refine RT.ite (fun d => set (CI_new p7 rfl kb0 hH (Or.inl rfl) (bts_iff.mpr (Or.inl ((fa_lt _ _).mp d))))) (fun d => RT.ite (fun d2 => RT.ite (fun d3 => stay (fun h hh => ?_)) (fun d3 => set (CI_new p7 rfl kb0 hH (Or.inl rfl) (bts_iff.mpr (Or.inr ⟨by rw [d2], by omega⟩))))) (fun d2 => stay (fun h hh => ?_)))
        · by_cases q : h = ho V i
          · subst q; rw [p2]; exact CI_old p1 p3 kb0 p5 p6 p7 (bts_iff.mpr (Or.inr ⟨by rw [d2], by omega⟩))
          · exact other h hh q
        · by_cases q : h = ho V i
          · subst q; rw [p2]
            refine CI_old p1 p3 kb0 p5 p6 p7 (bts_iff.mpr (Or.inl ?_))
            rw [fa_lt] at d
            rw [fa_eq] at d2
            omega
          · exact other h hh q
    have zero : ∀ (z0 z1 : Ob), kb E V (ho V i) = false → Hm.testBit i = false → ((0 : Int32) = wr E V i ∨ sz V (ho V i) ≤ 1) → z0.1 = D.1 → (∀ h, h < vh V → CI E Hm.testBit V i h (z0.2 1 h) (z0.2 2 h)) → RCo z1 E.1 → RT (f_X2_choose_J98 (f_X2_choose_L31 (nI Hm) (nI K) v n) (nI Hm) (nI K) v (nI i) (nI (ho V i)) z0 z1 z2) Q := fun z0 z1 a b d e f g => key 0 z0 z1 a b d e f g
    unfold f_X2_choose_L31
    simp (disch := omega) only [bnd_nr, li_0, li_1, li_2, li_3, li_4, li_5, li_6, li_7, li_8, li_9, li_10, li_11, li_12, li_13, li_14, li_15, li_16, li_17, li_18, li_19, li_20, li_21, li_22, li_23, li_24, li_25, li_26, li_27, li_28, li_29, li_30, li_31, li_32, li_33, li_34, li_35, li_36, li_37, li_38, li_39, li_40, li_41, li_42, li_43, li_44, li_45, li_46, li_47, li_48, li_49, li_50, li_51, li_52, li_53, li_54, li_55, li_56, li_57, li_58, li_59, li_60, li_61, li_62, li_63, li_64, li_74, li_86, li_87, li_88, li_96, li_97, li_98, li_99, li_100, li_101, li_102, li_103, li_104, li_105, li_107, li_108, li_109, li_110, li_111, li_112, li_114, li_115, li_116, li_117, li_118, li_121, li_122, li_124, li_136, li_148, li_160, li_680, li_200, li_201, li_255, li_700, li_950, li_1000, li_1400, li_3440, li_4096, li_9999, li_10000, li_20000, li_20033, li_20038, li_20124, li_32767, li_65535, li_1103515245, li_12345, li_m, sx_grd, sx_clamp, nI_add, sx_sub, pk_mul, sx_le, sx_lt, sx_eq, sx_eqm, sx_meq, sx_lem, sx_mle, sx_ltm, sx_mlt, sx_addm, sx_shl, sx_bit1, sx_bit0, fa_or, uA_s, uA_n, sA_s, sA_n, sx_uA, sx_uAn, sx_sAs, pk_us, pk_un, if_true, if_false, if_pos, if_neg, ob_some, Nat.add_zero, Nat.add_sub_cancel, eq_self, ne_eq, not_true, not_false_iff, false_or, true_or, or_false, or_true, false_and, true_and, and_false, and_true, c.1.1, c.h i hi, c.z _ b1, e2.1]
    refine RT.ite (fun d1 => RT.ite (fun d2 => ?_) (fun d2 => ?_)) (fun d1 => ?_)
    · rw [hkb _ b1] at d1
      cases t : E.1.1
      · simp (disch := omega) only [bnd_nr, li_0, li_1, li_2, li_3, li_4, li_5, li_6, li_7, li_8, li_9, li_10, li_11, li_12, li_13, li_14, li_15, li_16, li_17, li_18, li_19, li_20, li_21, li_22, li_23, li_24, li_25, li_26, li_27, li_28, li_29, li_30, li_31, li_32, li_33, li_34, li_35, li_36, li_37, li_38, li_39, li_40, li_41, li_42, li_43, li_44, li_45, li_46, li_47, li_48, li_49, li_50, li_51, li_52, li_53, li_54, li_55, li_56, li_57, li_58, li_59, li_60, li_61, li_62, li_63, li_64, li_74, li_86, li_87, li_88, li_96, li_97, li_98, li_99, li_100, li_101, li_102, li_103, li_104, li_105, li_107, li_108, li_109, li_110, li_111, li_112, li_114, li_115, li_116, li_117, li_118, li_121, li_122, li_124, li_136, li_148, li_160, li_680, li_200, li_201, li_255, li_700, li_950, li_1000, li_1400, li_3440, li_4096, li_9999, li_10000, li_20000, li_20033, li_20038, li_20124, li_32767, li_65535, li_1103515245, li_12345, li_m, sx_grd, sx_clamp, nI_add, sx_sub, pk_mul, sx_le, sx_lt, sx_eq, sx_eqm, sx_meq, sx_lem, sx_mle, sx_ltm, sx_mlt, sx_addm, sx_shl, sx_bit1, sx_bit0, fa_or, uA_s, uA_n, sA_s, sA_n, sx_uA, sx_uAn, sx_sAs, pk_us, pk_un, if_true, if_false, if_pos, if_neg, ob_some, Nat.add_zero, Nat.add_sub_cancel, eq_self, ne_eq, not_true, not_false_iff, false_or, true_or, or_false, or_true, false_and, true_and, and_false, and_true, Bool.false_eq_true]
        exact zero z0 z1 d1 d2 (Or.inl (by unfold wr; rw [t]; rfl)) e3 e4 e2
      · simp (disch := omega) only [bnd_nr, li_0, li_1, li_2, li_3, li_4, li_5, li_6, li_7, li_8, li_9, li_10, li_11, li_12, li_13, li_14, li_15, li_16, li_17, li_18, li_19, li_20, li_21, li_22, li_23, li_24, li_25, li_26, li_27, li_28, li_29, li_30, li_31, li_32, li_33, li_34, li_35, li_36, li_37, li_38, li_39, li_40, li_41, li_42, li_43, li_44, li_45, li_46, li_47, li_48, li_49, li_50, li_51, li_52, li_53, li_54, li_55, li_56, li_57, li_58, li_59, li_60, li_61, li_62, li_63, li_64, li_74, li_86, li_87, li_88, li_96, li_97, li_98, li_99, li_100, li_101, li_102, li_103, li_104, li_105, li_107, li_108, li_109, li_110, li_111, li_112, li_114, li_115, li_116, li_117, li_118, li_121, li_122, li_124, li_136, li_148, li_160, li_680, li_200, li_201, li_255, li_700, li_950, li_1000, li_1400, li_3440, li_4096, li_9999, li_10000, li_20000, li_20033, li_20038, li_20124, li_32767, li_65535, li_1103515245, li_12345, li_m, sx_grd, sx_clamp, nI_add, sx_sub, pk_mul, sx_le, sx_lt, sx_eq, sx_eqm, sx_meq, sx_lem, sx_mle, sx_ltm, sx_mlt, sx_addm, sx_shl, sx_bit1, sx_bit0, fa_or, uA_s, uA_n, sA_s, sA_n, sx_uA, sx_uAn, sx_sAs, pk_us, pk_un, if_true, if_false, if_pos, if_neg, ob_some, Nat.add_zero, Nat.add_sub_cancel, eq_self, ne_eq, not_true, not_false_iff, false_or, true_or, or_false, or_true, false_and, true_and, and_false, and_true]
        refine RT.ite (fun d3 => zero z0 z1 d1 d2 (Or.inr d3) e3 e4 e2) (fun d3 => ?_)
        refine RT.bind (c_worthOf (Rk := z2) (D := z0) c w k e2 t hi) (fun q hq => ?_)
        refine key _ _ _ d1 d2 (Or.inl hq.1) (by rw [hq.2.1.1]; exact e3) (fun h hh => ?_) hq.2.2
        rw [hq.2.1.2 1 (by omega), hq.2.1.2 2 (by omega)]
        exact e4 h hh
    · refine hk _ _ _ ⟨rfl, e2, e3, fun h hh => CI_skip (e4 h hh) (fun _ => Or.inr ?_)⟩
      exact ts_nf d2
    · refine hk _ _ _ ⟨rfl, e2, e3, fun h hh => CI_skip (e4 h hh) (fun z => Or.inl ?_)⟩
      rw [hkb _ b1, z] at d1
      exact ts_nf d1
theorem c_choose {D Rp Rk v : Ob} {E : RE} {V : VT} {Hm : Nat} (c : VC v V) (w : WFP V) (k : EOK E) (h1 : RCo Rp E.1) (h2 : RCo Rk E.2) (hm : Hm < 2147483648) : RT (f_X2_choose D Rp Rk v (nI Hm)) (fun q => (∀ h, h < vh V → GR (goB E Hm.testBit V) V h (q.1.2 1 h)) ∧ q.1.1 = D.1 ∧ RCo q.2.1 E.1 ∧ RCo q.2.2 E.2) := by
  have b0 := w.1
  unfold f_X2_choose
  cases t : E.2.1
  · have z : Rk.1 0 = 0 := by rw [h2.1, t]; rfl
    refine RT.itT z ?_
    refine (c_choose1 (K := 0) c w k h1 hm (by omega) (fun h hh => ?_)).weak (fun q hq => ⟨hq.1, hq.2.1, hq.2.2.1, by rw [hq.2.2.2]; exact h2⟩)
    unfold kb
    rw [t, Nat.zero_testBit]; rfl
  · have z : ¬ Rk.1 0 = 0 := by rw [h2.1, t]; decide
    refine RT.itF z ?_
    refine RT.bind (c_keptIn (D := D) (Rp := Rp) c w k h2 t) (fun q hq => ?_)
    rw [hq.1]
    refine (c_choose1 (D := q.2.1) (K := msk (kb E V) (vh V)) c w k h1 hm (msk31 (by omega)) (fun h hh => ?_)).weak (fun r hr => ⟨hr.1, by rw [hr.2.1]; exact hq.2.1.1, hr.2.2.1, by rw [hr.2.2.2]; exact hq.2.2⟩)
    rw [msk_bit, decide_eq_true hh, Bool.true_and]
