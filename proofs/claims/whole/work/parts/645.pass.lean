/-! the class's evening -/
theorem up_go {G : Nat → Bool} {V : VT} (g : GOK G V) {p : Nat} (hp : p < vn V) (c : G p = true) : up G V p = false := by
  refine Bool.eq_false_iff.mpr (fun u => ?_)
  obtain ⟨q, q1, q2, q3, q4⟩ := up_iff.mp u
  have := g q p q1 hp q3 c q2
  subst this; omega
theorem up_eq {G : Nat → Bool} {V : VT} (g : GOK G V) {p x : Nat} (hx : x < vn V) (e : ho V x = ho V p) (c : G x = true) : up G V p = decide (pl V x < pl V p) := by
  by_cases d : pl V x < pl V p
  · rw [decide_eq_true d]; exact up_iff.mpr ⟨x, hx, e, c, d⟩
  · rw [decide_eq_false d]
    refine Bool.eq_false_iff.mpr (fun u => ?_)
    obtain ⟨q, q1, q2, q3, q4⟩ := up_iff.mp u
    have := g q x q1 hx q3 c (by rw [q2, e])
    subst this; exact d q4
theorem up_no {G : Nat → Bool} {V : VT} {p : Nat} (h : ∀ q, q < vn V → ho V q = ho V p → G q = false) : up G V p = false := by
  refine Bool.eq_false_iff.mpr (fun u => ?_)
  obtain ⟨q, q1, q2, q3, q4⟩ := up_iff.mp u
  rw [h q q1 q2] at q3; cases q3
def cm (G : Nat → Bool) (V : VT) (p : Nat) : Int32 := nI (if up G V p then pl V p - 1 else pl V p)
theorem c_comeUp {D Rp Rk v : Ob} {G : Nat → Bool} {V : VT} (c : VC v V) (w : WFP V) (g : GOK G V) (hL : ∀ h, h < vh V → GR G V h (D.2 1 h)) : f_X2_comeUp D Rp Rk v = some (v.1, sA v.2 3 (fa_fill (cm G V) (v.2 3) (vn V))) := by
  have b0 := w.1
  refine RT.eq ?_
  refine RT.cps (fun Q hQ => ?_)
  unfold f_X2_comeUp
  refine RT.loop0 (fun n i z => f_X2_comeUp_L2 D Rp Rk n (nI i) z) (vn V) (fun i z => z = (v.1, sA v.2 3 (fa_fill (cm G V) (v.2 3) i))) _ _ (by omega) ?_ ?_ ?_
  · rw [fa_fill_0, sA_self]
  · intro n z hz; subst hz
    show RT (f_X2_comeUp_L2 D Rp Rk (n + 1) (nI (vn V)) _) _
    unfold f_X2_comeUp_L2
    simp (disch := omega) only [bnd_nr, li_0, li_1, li_2, li_3, li_4, li_5, li_6, li_7, li_8, li_9, li_10, li_11, li_12, li_13, li_14, li_15, li_16, li_17, li_18, li_19, li_20, li_21, li_22, li_23, li_24, li_25, li_26, li_27, li_28, li_29, li_30, li_31, li_32, li_33, li_34, li_35, li_36, li_37, li_38, li_39, li_40, li_41, li_42, li_43, li_44, li_45, li_46, li_47, li_48, li_49, li_50, li_51, li_52, li_53, li_54, li_55, li_56, li_57, li_58, li_59, li_60, li_61, li_62, li_63, li_64, li_74, li_86, li_87, li_88, li_96, li_97, li_98, li_99, li_100, li_101, li_102, li_103, li_104, li_105, li_107, li_108, li_109, li_110, li_111, li_112, li_114, li_115, li_116, li_117, li_118, li_121, li_122, li_124, li_136, li_148, li_160, li_680, li_200, li_201, li_255, li_700, li_950, li_1000, li_1400, li_3440, li_4096, li_9999, li_10000, li_20000, li_20033, li_20038, li_20124, li_32767, li_65535, li_1103515245, li_12345, li_m, sx_grd, sx_clamp, nI_add, sx_sub, pk_mul, sx_le, sx_lt, sx_eq, sx_eqm, sx_meq, sx_lem, sx_mle, sx_ltm, sx_mlt, sx_addm, sx_shl, sx_bit1, sx_bit0, fa_or, uA_s, uA_n, sA_s, sA_n, sx_uA, sx_uAn, sx_sAs, pk_us, pk_un, if_true, if_false, if_pos, if_neg, ob_some, Nat.add_zero, Nat.add_sub_cancel, eq_self, ne_eq, not_true, not_false_iff, false_or, true_or, or_false, or_true, false_and, true_and, and_false, and_true, c.1.1]
    exact RT.done hQ rfl
  · intro n i z hi hz hk; subst hz
    show RT (f_X2_comeUp_L2 D Rp Rk (n + 1) (nI i) _) _
    obtain ⟨b1, b2, b3, b4⟩ := w.2.1 i hi
    have s1 := sz_le V (ho V i)
    unfold f_X2_comeUp_L2
    rcases hL (ho V i) b1 with ⟨e, no⟩ | ⟨x, x1, x2, x3, x4⟩
    · simp (disch := omega) only [bnd_nr, li_0, li_1, li_2, li_3, li_4, li_5, li_6, li_7, li_8, li_9, li_10, li_11, li_12, li_13, li_14, li_15, li_16, li_17, li_18, li_19, li_20, li_21, li_22, li_23, li_24, li_25, li_26, li_27, li_28, li_29, li_30, li_31, li_32, li_33, li_34, li_35, li_36, li_37, li_38, li_39, li_40, li_41, li_42, li_43, li_44, li_45, li_46, li_47, li_48, li_49, li_50, li_51, li_52, li_53, li_54, li_55, li_56, li_57, li_58, li_59, li_60, li_61, li_62, li_63, li_64, li_74, li_86, li_87, li_88, li_96, li_97, li_98, li_99, li_100, li_101, li_102, li_103, li_104, li_105, li_107, li_108, li_109, li_110, li_111, li_112, li_114, li_115, li_116, li_117, li_118, li_121, li_122, li_124, li_136, li_148, li_160, li_680, li_200, li_201, li_255, li_700, li_950, li_1000, li_1400, li_3440, li_4096, li_9999, li_10000, li_20000, li_20033, li_20038, li_20124, li_32767, li_65535, li_1103515245, li_12345, li_m, sx_grd, sx_clamp, nI_add, sx_sub, pk_mul, sx_le, sx_lt, sx_eq, sx_eqm, sx_meq, sx_lem, sx_mle, sx_ltm, sx_mlt, sx_addm, sx_shl, sx_bit1, sx_bit0, fa_or, uA_s, uA_n, sA_s, sA_n, sx_uA, sx_uAn, sx_sAs, pk_us, pk_un, if_true, if_false, if_pos, if_neg, ob_some, Nat.add_zero, Nat.add_sub_cancel, eq_self, ne_eq, not_true, not_false_iff, false_or, true_or, or_false, or_true, false_and, true_and, and_false, and_true, c.1.1, c.h i hi, e]
      refine hk _ ?_
      rw [fill_keep]
      rw [cm, up_no no, c.p i hi]; rfl
    · have bx := w.2.1 x x1
      have s2 := sz_le V (ho V x)
      have px : cm G V x = v.2 3 x := by rw [cm, up_go g x1 x4, c.p x x1]; rfl
      have u := up_eq g (p := i) x1 x3 x4
      simp (disch := omega) only [bnd_nr, li_0, li_1, li_2, li_3, li_4, li_5, li_6, li_7, li_8, li_9, li_10, li_11, li_12, li_13, li_14, li_15, li_16, li_17, li_18, li_19, li_20, li_21, li_22, li_23, li_24, li_25, li_26, li_27, li_28, li_29, li_30, li_31, li_32, li_33, li_34, li_35, li_36, li_37, li_38, li_39, li_40, li_41, li_42, li_43, li_44, li_45, li_46, li_47, li_48, li_49, li_50, li_51, li_52, li_53, li_54, li_55, li_56, li_57, li_58, li_59, li_60, li_61, li_62, li_63, li_64, li_74, li_86, li_87, li_88, li_96, li_97, li_98, li_99, li_100, li_101, li_102, li_103, li_104, li_105, li_107, li_108, li_109, li_110, li_111, li_112, li_114, li_115, li_116, li_117, li_118, li_121, li_122, li_124, li_136, li_148, li_160, li_680, li_200, li_201, li_255, li_700, li_950, li_1000, li_1400, li_3440, li_4096, li_9999, li_10000, li_20000, li_20033, li_20038, li_20124, li_32767, li_65535, li_1103515245, li_12345, li_m, sx_grd, sx_clamp, nI_add, sx_sub, pk_mul, sx_le, sx_lt, sx_eq, sx_eqm, sx_meq, sx_lem, sx_mle, sx_ltm, sx_mlt, sx_addm, sx_shl, sx_bit1, sx_bit0, fa_or, uA_s, uA_n, sA_s, sA_n, sx_uA, sx_uAn, sx_sAs, pk_us, pk_un, if_true, if_false, if_pos, if_neg, ob_some, Nat.add_zero, Nat.add_sub_cancel, eq_self, ne_eq, not_true, not_false_iff, false_or, true_or, or_false, or_true, false_and, true_and, and_false, and_true, c.1.1, c.h i hi, x2, fill_at, fill_same px, c.p i hi, c.p x x1]
      refine RT.ite (fun d => hk _ ?_) (fun d => hk _ ?_)
      · rw [fill_keep]
        rw [cm, u, decide_eq_false (by omega), c.p i hi]; rfl
      · rw [fill_up]
        rw [cm, u, decide_eq_true (by omega)]; rfl
def wentM (G : Nat → Bool) (V : VT) (h : Nat) : Nat := msk (fun p => G p && decide (ho V p < h)) (vn V)
/-- what goOut has done before house h -/
def OI (G : Nat → Bool) (V : VT) (I : Nat → Int32) (A : Nat → Nat → Int32) (h : Nat) (B : Nat → Nat → Int32) : Prop := B 1 = A 1 ∧ (∀ p, p < vn V → B 2 p = nI (if G p && decide (ho V p < h) then vh V else ho V p) ∧ B 3 p = (if G p && decide (ho V p < h) then nI (fb_ct (hg G V) (ho V p)) else cm G V p) ∧ B 4 p = nI (if G p && decide (ho V p < h) then ve V + 1 else ve V - si V p) ∧ B 5 p = (if G p && decide (ho V p < h) then mv V p + 1 else mv V p)) ∧ (∀ k, k < vh V → B 6 k = nI (if hg G V k && decide (k < h) then sz V k - 1 else sz V k) ∧ B 7 k = nI (ve V - ol V k)) ∧ (0 < fb_ct (hg G V) h → B 6 (vh V) = nI (fb_ct (hg G V) h) ∧ B 7 (vh V) = nI (ve V + 1))
theorem wentM_step {G : Nat → Bool} {V : VT} (g : GOK G V) {x h : Nat} (hx : x < vn V) (e : ho V x = h) (c : G x = true) : wentM G V h ||| 2 ^ x = wentM G V (h + 1) := by
  unfold wentM
  have l1 := msk_lt (fun p => G p && decide (ho V p < h)) (vn V)
  have l2 := msk_lt (fun p => G p && decide (ho V p < h + 1)) (vn V)
  refine bit_ext (n := vn V) (Nat.or_lt_two_pow l1 (Nat.pow_lt_pow_right (by omega) hx)) l2 (fun i hi => ?_)
  rw [Nat.testBit_or, Nat.testBit_two_pow, msk_bit, msk_bit, decide_eq_true hi, Bool.true_and, Bool.true_and]
  by_cases q : x = i
  · subst q; simp [c, e]
  · rw [decide_eq_false q, Bool.or_false]
    cases d : G i
    · rfl
    · have : ho V i ≠ h := fun z => q (g x i hx hi c d (by rw [e, z]))
      rw [Bool.true_and, Bool.true_and]
      exact decide_eq_decide.mpr (by omega)
theorem wentM_stay {G : Nat → Bool} {V : VT} {h : Nat} (no : ∀ p, p < vn V → ho V p = h → G p = false) : wentM G V (h + 1) = wentM G V h := msk_cong (fun i hi => by
  cases d : G i
  · rfl
  · have : ho V i ≠ h := fun z => by rw [no i hi z] at d; cases d
    rw [Bool.true_and, Bool.true_and]
    exact decide_eq_decide.mpr (by omega))
theorem wentM_end {G : Nat → Bool} {V : VT} (w : WFP V) : wentM G V (vh V) = msk G (vn V) := msk_cong (fun i hi => by
  rw [decide_eq_true (w.2.1 i hi).1, Bool.and_true])
theorem no_hg {G : Nat → Bool} {V : VT} {h : Nat} (no : ∀ p, p < vn V → ho V p = h → G p = false) : hg G V h = false := by
  refine Bool.eq_false_iff.mpr (fun u => ?_)
  obtain ⟨q, q1, q2, q3⟩ := hg_iff.mp u
  rw [no q q1 q2] at q3; cases q3
theorem OI_stay {G : Nat → Bool} {V : VT} {I : Nat → Int32} {A B : Nat → Nat → Int32} {h : Nat} (o : OI G V I A h B) (no : ∀ p, p < vn V → ho V p = h → G p = false) : OI G V I A (h + 1) B := by
  obtain ⟨o1, o2, o3, o4⟩ := o
  have hn := no_hg no
  refine ⟨o1, fun p hp => ?_, fun k hk => ?_, fun c => ?_⟩
  · have e : (G p && decide (ho V p < h + 1)) = (G p && decide (ho V p < h)) := by
      cases d : G p
      · rfl
      · have : ho V p ≠ h := fun z => by rw [no p hp z] at d; cases d
        rw [Bool.true_and, Bool.true_and]
        exact decide_eq_decide.mpr (by omega)
    rw [e]; exact o2 p hp
  · have e : (hg G V k && decide (k < h + 1)) = (hg G V k && decide (k < h)) := by
      cases d : hg G V k
      · rfl
      · have : k ≠ h := fun z => by rw [z, hn] at d; cases d
        rw [Bool.true_and, Bool.true_and]
        exact decide_eq_decide.mpr (by omega)
    rw [e]; exact o3 k hk
  · rw [ct_no hn] at c ⊢; exact o4 c
theorem c_goOut {D Rp Rk : Ob} {I : Nat → Int32} {A : Nat → Nat → Int32} {G : Nat → Bool} {V : VT} (i0 : I 0 = nI (vn V)) (i1 : I 1 = nI (vh V)) (i2 : I 2 = nI (ve V)) (o0 : OI G V I A 0 A) (w : WFV V) (g : GOK G V) (hL : ∀ h, h < vh V → GR G V h (D.2 1 h)) : RT (f_X2_goOut D Rp Rk (I, A)) (fun q => q.1 = nI (msk G (vn V)) ∧ q.2.1 = upd I 1 (nI (vh V + anyG G V)) ∧ OI G V I A (vh V) q.2.2) := by
  refine RT.cps (fun Q hQ => ?_)
  have hn9 := w.hn
  have wp := w.1
  have b0 := wp.1
  unfold f_X2_goOut
  simp (disch := omega) only [bnd_nr, li_0, li_1, li_2, li_3, li_4, li_5, li_6, li_7, li_8, li_9, li_10, li_11, li_12, li_13, li_14, li_15, li_16, li_17, li_18, li_19, li_20, li_21, li_22, li_23, li_24, li_25, li_26, li_27, li_28, li_29, li_30, li_31, li_32, li_33, li_34, li_35, li_36, li_37, li_38, li_39, li_40, li_41, li_42, li_43, li_44, li_45, li_46, li_47, li_48, li_49, li_50, li_51, li_52, li_53, li_54, li_55, li_56, li_57, li_58, li_59, li_60, li_61, li_62, li_63, li_64, li_74, li_86, li_87, li_88, li_96, li_97, li_98, li_99, li_100, li_101, li_102, li_103, li_104, li_105, li_107, li_108, li_109, li_110, li_111, li_112, li_114, li_115, li_116, li_117, li_118, li_121, li_122, li_124, li_136, li_148, li_160, li_680, li_200, li_201, li_255, li_700, li_950, li_1000, li_1400, li_3440, li_4096, li_9999, li_10000, li_20000, li_20033, li_20038, li_20124, li_32767, li_65535, li_1103515245, li_12345, li_m, sx_grd, sx_clamp, nI_add, sx_sub, pk_mul, sx_le, sx_lt, sx_eq, sx_eqm, sx_meq, sx_lem, sx_mle, sx_ltm, sx_mlt, sx_addm, sx_shl, sx_bit1, sx_bit0, fa_or, uA_s, uA_n, sA_s, sA_n, sx_uA, sx_uAn, sx_sAs, pk_us, pk_un, if_true, if_false, if_pos, if_neg, ob_some, Nat.add_zero, Nat.add_sub_cancel, eq_self, ne_eq, not_true, not_false_iff, false_or, true_or, or_false, or_true, false_and, true_and, and_false, and_true, i1]
  refine RT.loop0_3 (fun n i (l3 l4 : Int32) (z3 : Ob) => f_X2_goOut_L13 (nI (vh V)) D Rp Rk n l3 l4 (nI i) z3) (vh V) (fun h l3 l4 z => l3 = (if 0 < fb_ct (hg G V) h then nI (vh V) else mO) ∧ l4 = nI (wentM G V h) ∧ z.1 = (if 0 < fb_ct (hg G V) h then upd I 1 (nI (vh V + 1)) else I) ∧ OI G V I A h z.2) _ _ _ _ (by omega) ?_ ?_ ?_
  · refine ⟨rfl, ?_, rfl, o0⟩
    show nI 0 = _
    congr 1
    refine (msk_zero.mpr (fb_ct_zero.mpr (fun k _ => ?_))).symm
    simp
  · intro n l3 l4 z ⟨e1, e2, e3, e4⟩
    show RT (f_X2_goOut_L13 (nI (vh V)) D Rp Rk (n + 1) l3 l4 (nI (vh V)) z) _
    unfold f_X2_goOut_L13
    simp (disch := omega) only [bnd_nr, li_0, li_1, li_2, li_3, li_4, li_5, li_6, li_7, li_8, li_9, li_10, li_11, li_12, li_13, li_14, li_15, li_16, li_17, li_18, li_19, li_20, li_21, li_22, li_23, li_24, li_25, li_26, li_27, li_28, li_29, li_30, li_31, li_32, li_33, li_34, li_35, li_36, li_37, li_38, li_39, li_40, li_41, li_42, li_43, li_44, li_45, li_46, li_47, li_48, li_49, li_50, li_51, li_52, li_53, li_54, li_55, li_56, li_57, li_58, li_59, li_60, li_61, li_62, li_63, li_64, li_74, li_86, li_87, li_88, li_96, li_97, li_98, li_99, li_100, li_101, li_102, li_103, li_104, li_105, li_107, li_108, li_109, li_110, li_111, li_112, li_114, li_115, li_116, li_117, li_118, li_121, li_122, li_124, li_136, li_148, li_160, li_680, li_200, li_201, li_255, li_700, li_950, li_1000, li_1400, li_3440, li_4096, li_9999, li_10000, li_20000, li_20033, li_20038, li_20124, li_32767, li_65535, li_1103515245, li_12345, li_m, sx_grd, sx_clamp, nI_add, sx_sub, pk_mul, sx_le, sx_lt, sx_eq, sx_eqm, sx_meq, sx_lem, sx_mle, sx_ltm, sx_mlt, sx_addm, sx_shl, sx_bit1, sx_bit0, fa_or, uA_s, uA_n, sA_s, sA_n, sx_uA, sx_uAn, sx_sAs, pk_us, pk_un, if_true, if_false, if_pos, if_neg, ob_some, Nat.add_zero, Nat.add_sub_cancel, eq_self, ne_eq, not_true, not_false_iff, false_or, true_or, or_false, or_true, false_and, true_and, and_false, and_true]
    refine RT.done hQ ⟨by rw [e2, wentM_end wp], ?_, e4⟩
    rw [e3, anyG, hg_sum wp g]
    by_cases d : 0 < fb_ct G (vn V)
    · rw [if_pos d, if_pos d]
    · rw [if_neg d, if_neg d]
      funext k
      by_cases q : k = 1
      · subst q; rw [pk_us]; exact i1
      · rw [pk_un q]
  · intro n h l3 l4 z hh ⟨e1, e2, e3, e4⟩ hk
    show RT (f_X2_goOut_L13 (nI (vh V)) D Rp Rk (n + 1) l3 l4 (nI h) z) _
    rcases hL h hh with ⟨e, no⟩ | ⟨x, x1, x2, x3, x4⟩
    · unfold f_X2_goOut_L13
      simp (disch := omega) only [bnd_nr, li_0, li_1, li_2, li_3, li_4, li_5, li_6, li_7, li_8, li_9, li_10, li_11, li_12, li_13, li_14, li_15, li_16, li_17, li_18, li_19, li_20, li_21, li_22, li_23, li_24, li_25, li_26, li_27, li_28, li_29, li_30, li_31, li_32, li_33, li_34, li_35, li_36, li_37, li_38, li_39, li_40, li_41, li_42, li_43, li_44, li_45, li_46, li_47, li_48, li_49, li_50, li_51, li_52, li_53, li_54, li_55, li_56, li_57, li_58, li_59, li_60, li_61, li_62, li_63, li_64, li_74, li_86, li_87, li_88, li_96, li_97, li_98, li_99, li_100, li_101, li_102, li_103, li_104, li_105, li_107, li_108, li_109, li_110, li_111, li_112, li_114, li_115, li_116, li_117, li_118, li_121, li_122, li_124, li_136, li_148, li_160, li_680, li_200, li_201, li_255, li_700, li_950, li_1000, li_1400, li_3440, li_4096, li_9999, li_10000, li_20000, li_20033, li_20038, li_20124, li_32767, li_65535, li_1103515245, li_12345, li_m, sx_grd, sx_clamp, nI_add, sx_sub, pk_mul, sx_le, sx_lt, sx_eq, sx_eqm, sx_meq, sx_lem, sx_mle, sx_ltm, sx_mlt, sx_addm, sx_shl, sx_bit1, sx_bit0, fa_or, uA_s, uA_n, sA_s, sA_n, sx_uA, sx_uAn, sx_sAs, pk_us, pk_un, if_true, if_false, if_pos, if_neg, ob_some, Nat.add_zero, Nat.add_sub_cancel, eq_self, ne_eq, not_true, not_false_iff, false_or, true_or, or_false, or_true, false_and, true_and, and_false, and_true, e]
      have hn := no_hg no
      refine hk _ _ _ ⟨?_, ?_, ?_, OI_stay e4 no⟩
      · rw [ct_no hn]; exact e1
      · rw [wentM_stay no]; exact e2
      · rw [ct_no hn]; exact e3
    · have hgx : hg G V h = true := hg_iff.mpr ⟨x, x1, x3, x4⟩
      have hsz := sz_pos (V := V) x1
      rw [x3] at hsz
      have sl := sz_le V h
      have ctl := fb_ct_le (hg G V) h
      have key : ∀ B : Nat → Nat → Int32, B 1 = A 1 → (∀ p, p < vn V → B 2 p = nI (if G p && decide (ho V p < h) then vh V else ho V p) ∧ B 3 p = (if G p && decide (ho V p < h) then nI (fb_ct (hg G V) (ho V p)) else cm G V p) ∧ B 4 p = nI (if G p && decide (ho V p < h) then ve V + 1 else ve V - si V p) ∧ B 5 p = (if G p && decide (ho V p < h) then mv V p + 1 else mv V p)) → (∀ k, k < vh V → B 6 k = nI (if hg G V k && decide (k < h) then sz V k - 1 else sz V k) ∧ B 7 k = nI (ve V - ol V k)) → B 6 (vh V) = nI (fb_ct (hg G V) h) → RT (f_X2_goOut_J44 (f_X2_goOut_L13 (nI (vh V)) D Rp Rk n) (nI (vh V)) D Rp Rk (nI (vh V)) l4 (nI h) (nI x) (upd I 1 (nI (vh V + 1)), B)) Q := by
        intro B q1 q2 q3 q4
        have q5 := (q3 h hh).1
        rw [decide_eq_false (show ¬ h < h by omega), Bool.and_false, if_neg (by decide)] at q5
        have q6 := (q2 x x1).2.2.2
        rw [x3, decide_eq_false (show ¬ h < h by omega), Bool.and_false, if_neg (by decide)] at q6
        have ml := msk31 (f := fun p => G p && decide (ho V p < h)) (n := vn V) (by omega)
        unfold f_X2_goOut_J44
        simp (disch := omega) only [bnd_nr, li_0, li_1, li_2, li_3, li_4, li_5, li_6, li_7, li_8, li_9, li_10, li_11, li_12, li_13, li_14, li_15, li_16, li_17, li_18, li_19, li_20, li_21, li_22, li_23, li_24, li_25, li_26, li_27, li_28, li_29, li_30, li_31, li_32, li_33, li_34, li_35, li_36, li_37, li_38, li_39, li_40, li_41, li_42, li_43, li_44, li_45, li_46, li_47, li_48, li_49, li_50, li_51, li_52, li_53, li_54, li_55, li_56, li_57, li_58, li_59, li_60, li_61, li_62, li_63, li_64, li_74, li_86, li_87, li_88, li_96, li_97, li_98, li_99, li_100, li_101, li_102, li_103, li_104, li_105, li_107, li_108, li_109, li_110, li_111, li_112, li_114, li_115, li_116, li_117, li_118, li_121, li_122, li_124, li_136, li_148, li_160, li_680, li_200, li_201, li_255, li_700, li_950, li_1000, li_1400, li_3440, li_4096, li_9999, li_10000, li_20000, li_20033, li_20038, li_20124, li_32767, li_65535, li_1103515245, li_12345, li_m, sx_grd, sx_clamp, nI_add, sx_sub, pk_mul, sx_le, sx_lt, sx_eq, sx_eqm, sx_meq, sx_lem, sx_mle, sx_ltm, sx_mlt, sx_addm, sx_shl, sx_bit1, sx_bit0, fa_or, uA_s, uA_n, sA_s, sA_n, sx_uA, sx_uAn, sx_sAs, pk_us, pk_un, if_true, if_false, if_pos, if_neg, ob_some, Nat.add_zero, Nat.add_sub_cancel, eq_self, ne_eq, not_true, not_false_iff, false_or, true_or, or_false, or_true, false_and, true_and, and_false, and_true, c_enter, q5, q6, q4, i2, e2]
        refine hk _ _ _ ⟨?_, ?_, ?_, ?_, fun p hp => ?_, fun k hk9 => ?_, fun c => ?_⟩
        · rw [ct_yes hgx, if_pos (by omega)]
        · rw [wentM_step g x1 x3 x4]
        · rw [ct_yes hgx, if_pos (by omega)]
        · simp (disch := omega) only [bnd_nr, li_0, li_1, li_2, li_3, li_4, li_5, li_6, li_7, li_8, li_9, li_10, li_11, li_12, li_13, li_14, li_15, li_16, li_17, li_18, li_19, li_20, li_21, li_22, li_23, li_24, li_25, li_26, li_27, li_28, li_29, li_30, li_31, li_32, li_33, li_34, li_35, li_36, li_37, li_38, li_39, li_40, li_41, li_42, li_43, li_44, li_45, li_46, li_47, li_48, li_49, li_50, li_51, li_52, li_53, li_54, li_55, li_56, li_57, li_58, li_59, li_60, li_61, li_62, li_63, li_64, li_74, li_86, li_87, li_88, li_96, li_97, li_98, li_99, li_100, li_101, li_102, li_103, li_104, li_105, li_107, li_108, li_109, li_110, li_111, li_112, li_114, li_115, li_116, li_117, li_118, li_121, li_122, li_124, li_136, li_148, li_160, li_680, li_200, li_201, li_255, li_700, li_950, li_1000, li_1400, li_3440, li_4096, li_9999, li_10000, li_20000, li_20033, li_20038, li_20124, li_32767, li_65535, li_1103515245, li_12345, li_m, sx_grd, sx_clamp, nI_add, sx_sub, pk_mul, sx_le, sx_lt, sx_eq, sx_eqm, sx_meq, sx_lem, sx_mle, sx_ltm, sx_mlt, sx_addm, sx_shl, sx_bit1, sx_bit0, fa_or, uA_s, uA_n, sA_s, sA_n, sx_uA, sx_uAn, sx_sAs, pk_us, pk_un, if_true, if_false, if_pos, if_neg, ob_some, Nat.add_zero, Nat.add_sub_cancel, eq_self, ne_eq, not_true, not_false_iff, false_or, true_or, or_false, or_true, false_and, true_and, and_false, and_true]; exact q1
        · obtain ⟨r1, r2, r3, r4⟩ := q2 p hp
          simp (disch := omega) only [bnd_nr, li_0, li_1, li_2, li_3, li_4, li_5, li_6, li_7, li_8, li_9, li_10, li_11, li_12, li_13, li_14, li_15, li_16, li_17, li_18, li_19, li_20, li_21, li_22, li_23, li_24, li_25, li_26, li_27, li_28, li_29, li_30, li_31, li_32, li_33, li_34, li_35, li_36, li_37, li_38, li_39, li_40, li_41, li_42, li_43, li_44, li_45, li_46, li_47, li_48, li_49, li_50, li_51, li_52, li_53, li_54, li_55, li_56, li_57, li_58, li_59, li_60, li_61, li_62, li_63, li_64, li_74, li_86, li_87, li_88, li_96, li_97, li_98, li_99, li_100, li_101, li_102, li_103, li_104, li_105, li_107, li_108, li_109, li_110, li_111, li_112, li_114, li_115, li_116, li_117, li_118, li_121, li_122, li_124, li_136, li_148, li_160, li_680, li_200, li_201, li_255, li_700, li_950, li_1000, li_1400, li_3440, li_4096, li_9999, li_10000, li_20000, li_20033, li_20038, li_20124, li_32767, li_65535, li_1103515245, li_12345, li_m, sx_grd, sx_clamp, nI_add, sx_sub, pk_mul, sx_le, sx_lt, sx_eq, sx_eqm, sx_meq, sx_lem, sx_mle, sx_ltm, sx_mlt, sx_addm, sx_shl, sx_bit1, sx_bit0, fa_or, uA_s, uA_n, sA_s, sA_n, sx_uA, sx_uAn, sx_sAs, pk_us, pk_un, if_true, if_false, if_pos, if_neg, ob_some, Nat.add_zero, Nat.add_sub_cancel, eq_self, ne_eq, not_true, not_false_iff, false_or, true_or, or_false, or_true, false_and, true_and, and_false, and_true]
          by_cases d : p = x
          · subst d
            rw [pk_us, pk_us, pk_us, pk_us, x4, x3, decide_eq_true (show h < h + 1 by omega), Bool.and_true, if_pos rfl, if_pos rfl, if_pos rfl, if_pos rfl]
            exact ⟨rfl, rfl, rfl, rfl⟩
          · have ee : (G p && decide (ho V p < h + 1)) = (G p && decide (ho V p < h)) := by
              cases d2 : G p
              · rfl
              · have : ho V p ≠ h := fun z => d (g p x hp x1 d2 x4 (by rw [z, x3]))
                rw [Bool.true_and, Bool.true_and]
                exact decide_eq_decide.mpr (by omega)
            rw [ee]
            simp only [pk_un d]
            exact ⟨r1, r2, r3, r4⟩
        · simp (disch := omega) only [bnd_nr, li_0, li_1, li_2, li_3, li_4, li_5, li_6, li_7, li_8, li_9, li_10, li_11, li_12, li_13, li_14, li_15, li_16, li_17, li_18, li_19, li_20, li_21, li_22, li_23, li_24, li_25, li_26, li_27, li_28, li_29, li_30, li_31, li_32, li_33, li_34, li_35, li_36, li_37, li_38, li_39, li_40, li_41, li_42, li_43, li_44, li_45, li_46, li_47, li_48, li_49, li_50, li_51, li_52, li_53, li_54, li_55, li_56, li_57, li_58, li_59, li_60, li_61, li_62, li_63, li_64, li_74, li_86, li_87, li_88, li_96, li_97, li_98, li_99, li_100, li_101, li_102, li_103, li_104, li_105, li_107, li_108, li_109, li_110, li_111, li_112, li_114, li_115, li_116, li_117, li_118, li_121, li_122, li_124, li_136, li_148, li_160, li_680, li_200, li_201, li_255, li_700, li_950, li_1000, li_1400, li_3440, li_4096, li_9999, li_10000, li_20000, li_20033, li_20038, li_20124, li_32767, li_65535, li_1103515245, li_12345, li_m, sx_grd, sx_clamp, nI_add, sx_sub, pk_mul, sx_le, sx_lt, sx_eq, sx_eqm, sx_meq, sx_lem, sx_mle, sx_ltm, sx_mlt, sx_addm, sx_shl, sx_bit1, sx_bit0, fa_or, uA_s, uA_n, sA_s, sA_n, sx_uA, sx_uAn, sx_sAs, pk_us, pk_un, if_true, if_false, if_pos, if_neg, ob_some, Nat.add_zero, Nat.add_sub_cancel, eq_self, ne_eq, not_true, not_false_iff, false_or, true_or, or_false, or_true, false_and, true_and, and_false, and_true]
          by_cases d : k = h
          · subst d
            rw [pk_us, hgx, decide_eq_true (show k < k + 1 by omega), Bool.and_true, if_pos rfl]
            exact ⟨rfl, (q3 k hk9).2⟩
          · rw [pk_un d]
            have ee : (hg G V k && decide (k < h + 1)) = (hg G V k && decide (k < h)) := by
              cases hg G V k
              · rfl
              · rw [Bool.true_and, Bool.true_and]
                exact decide_eq_decide.mpr (by omega)
            rw [ee]
            exact q3 k hk9
        · simp (disch := omega) only [bnd_nr, li_0, li_1, li_2, li_3, li_4, li_5, li_6, li_7, li_8, li_9, li_10, li_11, li_12, li_13, li_14, li_15, li_16, li_17, li_18, li_19, li_20, li_21, li_22, li_23, li_24, li_25, li_26, li_27, li_28, li_29, li_30, li_31, li_32, li_33, li_34, li_35, li_36, li_37, li_38, li_39, li_40, li_41, li_42, li_43, li_44, li_45, li_46, li_47, li_48, li_49, li_50, li_51, li_52, li_53, li_54, li_55, li_56, li_57, li_58, li_59, li_60, li_61, li_62, li_63, li_64, li_74, li_86, li_87, li_88, li_96, li_97, li_98, li_99, li_100, li_101, li_102, li_103, li_104, li_105, li_107, li_108, li_109, li_110, li_111, li_112, li_114, li_115, li_116, li_117, li_118, li_121, li_122, li_124, li_136, li_148, li_160, li_680, li_200, li_201, li_255, li_700, li_950, li_1000, li_1400, li_3440, li_4096, li_9999, li_10000, li_20000, li_20033, li_20038, li_20124, li_32767, li_65535, li_1103515245, li_12345, li_m, sx_grd, sx_clamp, nI_add, sx_sub, pk_mul, sx_le, sx_lt, sx_eq, sx_eqm, sx_meq, sx_lem, sx_mle, sx_ltm, sx_mlt, sx_addm, sx_shl, sx_bit1, sx_bit0, fa_or, uA_s, uA_n, sA_s, sA_n, sx_uA, sx_uAn, sx_sAs, pk_us, pk_un, if_true, if_false, if_pos, if_neg, ob_some, Nat.add_zero, Nat.add_sub_cancel, eq_self, ne_eq, not_true, not_false_iff, false_or, true_or, or_false, or_true, false_and, true_and, and_false, and_true]
          rw [ct_yes hgx]
      obtain ⟨o1, o2, o3, o4⟩ := e4
      obtain ⟨J, B⟩ := z
      unfold f_X2_goOut_L13
      by_cases d : 0 < fb_ct (hg G V) h
      · rw [if_pos d] at e1 e3
        have e3 : J = upd I 1 (nI (vh V + 1)) := e3
        subst e1; subst e3
        simp (disch := omega) only [bnd_nr, li_0, li_1, li_2, li_3, li_4, li_5, li_6, li_7, li_8, li_9, li_10, li_11, li_12, li_13, li_14, li_15, li_16, li_17, li_18, li_19, li_20, li_21, li_22, li_23, li_24, li_25, li_26, li_27, li_28, li_29, li_30, li_31, li_32, li_33, li_34, li_35, li_36, li_37, li_38, li_39, li_40, li_41, li_42, li_43, li_44, li_45, li_46, li_47, li_48, li_49, li_50, li_51, li_52, li_53, li_54, li_55, li_56, li_57, li_58, li_59, li_60, li_61, li_62, li_63, li_64, li_74, li_86, li_87, li_88, li_96, li_97, li_98, li_99, li_100, li_101, li_102, li_103, li_104, li_105, li_107, li_108, li_109, li_110, li_111, li_112, li_114, li_115, li_116, li_117, li_118, li_121, li_122, li_124, li_136, li_148, li_160, li_680, li_200, li_201, li_255, li_700, li_950, li_1000, li_1400, li_3440, li_4096, li_9999, li_10000, li_20000, li_20033, li_20038, li_20124, li_32767, li_65535, li_1103515245, li_12345, li_m, sx_grd, sx_clamp, nI_add, sx_sub, pk_mul, sx_le, sx_lt, sx_eq, sx_eqm, sx_meq, sx_lem, sx_mle, sx_ltm, sx_mlt, sx_addm, sx_shl, sx_bit1, sx_bit0, fa_or, uA_s, uA_n, sA_s, sA_n, sx_uA, sx_uAn, sx_sAs, pk_us, pk_un, if_true, if_false, if_pos, if_neg, ob_some, Nat.add_zero, Nat.add_sub_cancel, eq_self, ne_eq, not_true, not_false_iff, false_or, true_or, or_false, or_true, false_and, true_and, and_false, and_true, x2]
        exact key B o1 o2 o3 (o4 d).1
      · rw [if_neg d] at e1 e3
        have e3 : J = I := e3
        subst e1; subst e3
        simp (disch := omega) only [bnd_nr, li_0, li_1, li_2, li_3, li_4, li_5, li_6, li_7, li_8, li_9, li_10, li_11, li_12, li_13, li_14, li_15, li_16, li_17, li_18, li_19, li_20, li_21, li_22, li_23, li_24, li_25, li_26, li_27, li_28, li_29, li_30, li_31, li_32, li_33, li_34, li_35, li_36, li_37, li_38, li_39, li_40, li_41, li_42, li_43, li_44, li_45, li_46, li_47, li_48, li_49, li_50, li_51, li_52, li_53, li_54, li_55, li_56, li_57, li_58, li_59, li_60, li_61, li_62, li_63, li_64, li_74, li_86, li_87, li_88, li_96, li_97, li_98, li_99, li_100, li_101, li_102, li_103, li_104, li_105, li_107, li_108, li_109, li_110, li_111, li_112, li_114, li_115, li_116, li_117, li_118, li_121, li_122, li_124, li_136, li_148, li_160, li_680, li_200, li_201, li_255, li_700, li_950, li_1000, li_1400, li_3440, li_4096, li_9999, li_10000, li_20000, li_20033, li_20038, li_20124, li_32767, li_65535, li_1103515245, li_12345, li_m, sx_grd, sx_clamp, nI_add, sx_sub, pk_mul, sx_le, sx_lt, sx_eq, sx_eqm, sx_meq, sx_lem, sx_mle, sx_ltm, sx_mlt, sx_addm, sx_shl, sx_bit1, sx_bit0, fa_or, uA_s, uA_n, sA_s, sA_n, sx_uA, sx_uAn, sx_sAs, pk_us, pk_un, if_true, if_false, if_pos, if_neg, ob_some, Nat.add_zero, Nat.add_sub_cancel, eq_self, ne_eq, not_true, not_false_iff, false_or, true_or, or_false, or_true, false_and, true_and, and_false, and_true, x2, c_addHouse i1 (by omega)]
        refine key _ ?_ (fun p hp => ?_) (fun k hk9 => ?_) ?_
        · simp (disch := omega) only [bnd_nr, li_0, li_1, li_2, li_3, li_4, li_5, li_6, li_7, li_8, li_9, li_10, li_11, li_12, li_13, li_14, li_15, li_16, li_17, li_18, li_19, li_20, li_21, li_22, li_23, li_24, li_25, li_26, li_27, li_28, li_29, li_30, li_31, li_32, li_33, li_34, li_35, li_36, li_37, li_38, li_39, li_40, li_41, li_42, li_43, li_44, li_45, li_46, li_47, li_48, li_49, li_50, li_51, li_52, li_53, li_54, li_55, li_56, li_57, li_58, li_59, li_60, li_61, li_62, li_63, li_64, li_74, li_86, li_87, li_88, li_96, li_97, li_98, li_99, li_100, li_101, li_102, li_103, li_104, li_105, li_107, li_108, li_109, li_110, li_111, li_112, li_114, li_115, li_116, li_117, li_118, li_121, li_122, li_124, li_136, li_148, li_160, li_680, li_200, li_201, li_255, li_700, li_950, li_1000, li_1400, li_3440, li_4096, li_9999, li_10000, li_20000, li_20033, li_20038, li_20124, li_32767, li_65535, li_1103515245, li_12345, li_m, sx_grd, sx_clamp, nI_add, sx_sub, pk_mul, sx_le, sx_lt, sx_eq, sx_eqm, sx_meq, sx_lem, sx_mle, sx_ltm, sx_mlt, sx_addm, sx_shl, sx_bit1, sx_bit0, fa_or, uA_s, uA_n, sA_s, sA_n, sx_uA, sx_uAn, sx_sAs, pk_us, pk_un, if_true, if_false, if_pos, if_neg, ob_some, Nat.add_zero, Nat.add_sub_cancel, eq_self, ne_eq, not_true, not_false_iff, false_or, true_or, or_false, or_true, false_and, true_and, and_false, and_true]; exact o1
        · simp (disch := omega) only [bnd_nr, li_0, li_1, li_2, li_3, li_4, li_5, li_6, li_7, li_8, li_9, li_10, li_11, li_12, li_13, li_14, li_15, li_16, li_17, li_18, li_19, li_20, li_21, li_22, li_23, li_24, li_25, li_26, li_27, li_28, li_29, li_30, li_31, li_32, li_33, li_34, li_35, li_36, li_37, li_38, li_39, li_40, li_41, li_42, li_43, li_44, li_45, li_46, li_47, li_48, li_49, li_50, li_51, li_52, li_53, li_54, li_55, li_56, li_57, li_58, li_59, li_60, li_61, li_62, li_63, li_64, li_74, li_86, li_87, li_88, li_96, li_97, li_98, li_99, li_100, li_101, li_102, li_103, li_104, li_105, li_107, li_108, li_109, li_110, li_111, li_112, li_114, li_115, li_116, li_117, li_118, li_121, li_122, li_124, li_136, li_148, li_160, li_680, li_200, li_201, li_255, li_700, li_950, li_1000, li_1400, li_3440, li_4096, li_9999, li_10000, li_20000, li_20033, li_20038, li_20124, li_32767, li_65535, li_1103515245, li_12345, li_m, sx_grd, sx_clamp, nI_add, sx_sub, pk_mul, sx_le, sx_lt, sx_eq, sx_eqm, sx_meq, sx_lem, sx_mle, sx_ltm, sx_mlt, sx_addm, sx_shl, sx_bit1, sx_bit0, fa_or, uA_s, uA_n, sA_s, sA_n, sx_uA, sx_uAn, sx_sAs, pk_us, pk_un, if_true, if_false, if_pos, if_neg, ob_some, Nat.add_zero, Nat.add_sub_cancel, eq_self, ne_eq, not_true, not_false_iff, false_or, true_or, or_false, or_true, false_and, true_and, and_false, and_true]; exact o2 p hp
        · simp (disch := omega) only [bnd_nr, li_0, li_1, li_2, li_3, li_4, li_5, li_6, li_7, li_8, li_9, li_10, li_11, li_12, li_13, li_14, li_15, li_16, li_17, li_18, li_19, li_20, li_21, li_22, li_23, li_24, li_25, li_26, li_27, li_28, li_29, li_30, li_31, li_32, li_33, li_34, li_35, li_36, li_37, li_38, li_39, li_40, li_41, li_42, li_43, li_44, li_45, li_46, li_47, li_48, li_49, li_50, li_51, li_52, li_53, li_54, li_55, li_56, li_57, li_58, li_59, li_60, li_61, li_62, li_63, li_64, li_74, li_86, li_87, li_88, li_96, li_97, li_98, li_99, li_100, li_101, li_102, li_103, li_104, li_105, li_107, li_108, li_109, li_110, li_111, li_112, li_114, li_115, li_116, li_117, li_118, li_121, li_122, li_124, li_136, li_148, li_160, li_680, li_200, li_201, li_255, li_700, li_950, li_1000, li_1400, li_3440, li_4096, li_9999, li_10000, li_20000, li_20033, li_20038, li_20124, li_32767, li_65535, li_1103515245, li_12345, li_m, sx_grd, sx_clamp, nI_add, sx_sub, pk_mul, sx_le, sx_lt, sx_eq, sx_eqm, sx_meq, sx_lem, sx_mle, sx_ltm, sx_mlt, sx_addm, sx_shl, sx_bit1, sx_bit0, fa_or, uA_s, uA_n, sA_s, sA_n, sx_uA, sx_uAn, sx_sAs, pk_us, pk_un, if_true, if_false, if_pos, if_neg, ob_some, Nat.add_zero, Nat.add_sub_cancel, eq_self, ne_eq, not_true, not_false_iff, false_or, true_or, or_false, or_true, false_and, true_and, and_false, and_true]; exact o3 k hk9
        · simp (disch := omega) only [bnd_nr, li_0, li_1, li_2, li_3, li_4, li_5, li_6, li_7, li_8, li_9, li_10, li_11, li_12, li_13, li_14, li_15, li_16, li_17, li_18, li_19, li_20, li_21, li_22, li_23, li_24, li_25, li_26, li_27, li_28, li_29, li_30, li_31, li_32, li_33, li_34, li_35, li_36, li_37, li_38, li_39, li_40, li_41, li_42, li_43, li_44, li_45, li_46, li_47, li_48, li_49, li_50, li_51, li_52, li_53, li_54, li_55, li_56, li_57, li_58, li_59, li_60, li_61, li_62, li_63, li_64, li_74, li_86, li_87, li_88, li_96, li_97, li_98, li_99, li_100, li_101, li_102, li_103, li_104, li_105, li_107, li_108, li_109, li_110, li_111, li_112, li_114, li_115, li_116, li_117, li_118, li_121, li_122, li_124, li_136, li_148, li_160, li_680, li_200, li_201, li_255, li_700, li_950, li_1000, li_1400, li_3440, li_4096, li_9999, li_10000, li_20000, li_20033, li_20038, li_20124, li_32767, li_65535, li_1103515245, li_12345, li_m, sx_grd, sx_clamp, nI_add, sx_sub, pk_mul, sx_le, sx_lt, sx_eq, sx_eqm, sx_meq, sx_lem, sx_mle, sx_ltm, sx_mlt, sx_addm, sx_shl, sx_bit1, sx_bit0, fa_or, uA_s, uA_n, sA_s, sA_n, sx_uA, sx_uAn, sx_sAs, pk_us, pk_un, if_true, if_false, if_pos, if_neg, ob_some, Nat.add_zero, Nat.add_sub_cancel, eq_self, ne_eq, not_true, not_false_iff, false_or, true_or, or_false, or_true, false_and, true_and, and_false, and_true]
          rw [show fb_ct (hg G V) h = 0 by omega]
theorem c_pass {D Rp Rk v : Ob} {E : RE} {V : VT} {Hm : Nat} (c : VC v V) (w : WFV V) (k : EOK E) (h1 : RCo Rp E.1) (h2 : RCo Rk E.2) (hm : Hm < 2147483648) (he : ve V < 20000) : RT (f_X2_pass D Rp Rk v (nI Hm)) (fun q => q.1 = nI (msk (goB E Hm.testBit V) (vn V)) ∧ RCo q.2.2.1 E.1 ∧ RCo q.2.2.2.1 E.2 ∧ VC q.2.2.2.2 (evV (goB E Hm.testBit V) V)) := by
  refine RT.cps (fun Q hQ => ?_)
  have wp := w.1
  have b0 := wp.1
  have g : GOK (goB E Hm.testBit V) V := GOK_go wp
  have hn9 := w.hn
  unfold f_X2_pass
  refine RT.bind (c_choose (D := D) c wp k h1 h2 hm) (fun q1 ⟨L, _, hp, hk⟩ => ?_)
  rw [c_comeUp c wp g L, Option.bind_some]
  obtain ⟨I, A⟩ := v
  obtain ⟨⟨v1, v2, v3⟩, v4, v5⟩ := c
  refine RT.bind (c_goOut (G := goB E Hm.testBit V) (V := V) v1 v2 v3 ?_ w g L) (fun q3 ⟨o1, o2, o3⟩ => ?_)
  · refine ⟨rfl, fun p hp => ?_, fun k hk => ?_, fun z => absurd z (by simp [fb_ct])⟩
    · simp (disch := omega) only [bnd_nr, li_0, li_1, li_2, li_3, li_4, li_5, li_6, li_7, li_8, li_9, li_10, li_11, li_12, li_13, li_14, li_15, li_16, li_17, li_18, li_19, li_20, li_21, li_22, li_23, li_24, li_25, li_26, li_27, li_28, li_29, li_30, li_31, li_32, li_33, li_34, li_35, li_36, li_37, li_38, li_39, li_40, li_41, li_42, li_43, li_44, li_45, li_46, li_47, li_48, li_49, li_50, li_51, li_52, li_53, li_54, li_55, li_56, li_57, li_58, li_59, li_60, li_61, li_62, li_63, li_64, li_74, li_86, li_87, li_88, li_96, li_97, li_98, li_99, li_100, li_101, li_102, li_103, li_104, li_105, li_107, li_108, li_109, li_110, li_111, li_112, li_114, li_115, li_116, li_117, li_118, li_121, li_122, li_124, li_136, li_148, li_160, li_680, li_200, li_201, li_255, li_700, li_950, li_1000, li_1400, li_3440, li_4096, li_9999, li_10000, li_20000, li_20033, li_20038, li_20124, li_32767, li_65535, li_1103515245, li_12345, li_m, sx_grd, sx_clamp, nI_add, sx_sub, pk_mul, sx_le, sx_lt, sx_eq, sx_eqm, sx_meq, sx_lem, sx_mle, sx_ltm, sx_mlt, sx_addm, sx_shl, sx_bit1, sx_bit0, fa_or, uA_s, uA_n, sA_s, sA_n, sx_uA, sx_uAn, sx_sAs, pk_us, pk_un, if_true, if_false, if_pos, if_neg, ob_some, Nat.add_zero, Nat.add_sub_cancel, eq_self, ne_eq, not_true, not_false_iff, false_or, true_or, or_false, or_true, false_and, true_and, and_false, and_true]
      rw [decide_eq_false (Nat.not_lt_zero _), Bool.and_false, if_neg (by decide), if_neg (by decide), if_neg (by decide), if_neg (by decide), fa_fill_in hp]
      exact ⟨(v4 p hp).2.1, rfl, (v4 p hp).2.2.2.1, (v4 p hp).2.2.2.2⟩
    · simp (disch := omega) only [bnd_nr, li_0, li_1, li_2, li_3, li_4, li_5, li_6, li_7, li_8, li_9, li_10, li_11, li_12, li_13, li_14, li_15, li_16, li_17, li_18, li_19, li_20, li_21, li_22, li_23, li_24, li_25, li_26, li_27, li_28, li_29, li_30, li_31, li_32, li_33, li_34, li_35, li_36, li_37, li_38, li_39, li_40, li_41, li_42, li_43, li_44, li_45, li_46, li_47, li_48, li_49, li_50, li_51, li_52, li_53, li_54, li_55, li_56, li_57, li_58, li_59, li_60, li_61, li_62, li_63, li_64, li_74, li_86, li_87, li_88, li_96, li_97, li_98, li_99, li_100, li_101, li_102, li_103, li_104, li_105, li_107, li_108, li_109, li_110, li_111, li_112, li_114, li_115, li_116, li_117, li_118, li_121, li_122, li_124, li_136, li_148, li_160, li_680, li_200, li_201, li_255, li_700, li_950, li_1000, li_1400, li_3440, li_4096, li_9999, li_10000, li_20000, li_20033, li_20038, li_20124, li_32767, li_65535, li_1103515245, li_12345, li_m, sx_grd, sx_clamp, nI_add, sx_sub, pk_mul, sx_le, sx_lt, sx_eq, sx_eqm, sx_meq, sx_lem, sx_mle, sx_ltm, sx_mlt, sx_addm, sx_shl, sx_bit1, sx_bit0, fa_or, uA_s, uA_n, sA_s, sA_n, sx_uA, sx_uAn, sx_sAs, pk_us, pk_un, if_true, if_false, if_pos, if_neg, ob_some, Nat.add_zero, Nat.add_sub_cancel, eq_self, ne_eq, not_true, not_false_iff, false_or, true_or, or_false, or_true, false_and, true_and, and_false, and_true]
      rw [decide_eq_false (Nat.not_lt_zero _), Bool.and_false, if_neg (by decide)]
      exact v5 k hk
  · obtain ⟨r, J, B⟩ := q3
    have o1 : r = _ := o1
    have o2 : J = _ := o2
    have o3 : OI (goB E Hm.testBit V) V I _ (vh V) B := o3
    obtain ⟨p1, p2, p3, p4⟩ := o3
    have v1 : I 0 = nI (vn V) := v1
    have v3 : I 2 = nI (ve V) := v3
    have vc : VC (upd J 2 (J 2 + 1), B) (goV (goB E Hm.testBit V) V) := by
      subst o2
      refine ⟨⟨?_, ?_, ?_⟩, fun p hp => ?_, fun k hk => ?_⟩
      · simp (disch := omega) only [bnd_nr, li_0, li_1, li_2, li_3, li_4, li_5, li_6, li_7, li_8, li_9, li_10, li_11, li_12, li_13, li_14, li_15, li_16, li_17, li_18, li_19, li_20, li_21, li_22, li_23, li_24, li_25, li_26, li_27, li_28, li_29, li_30, li_31, li_32, li_33, li_34, li_35, li_36, li_37, li_38, li_39, li_40, li_41, li_42, li_43, li_44, li_45, li_46, li_47, li_48, li_49, li_50, li_51, li_52, li_53, li_54, li_55, li_56, li_57, li_58, li_59, li_60, li_61, li_62, li_63, li_64, li_74, li_86, li_87, li_88, li_96, li_97, li_98, li_99, li_100, li_101, li_102, li_103, li_104, li_105, li_107, li_108, li_109, li_110, li_111, li_112, li_114, li_115, li_116, li_117, li_118, li_121, li_122, li_124, li_136, li_148, li_160, li_680, li_200, li_201, li_255, li_700, li_950, li_1000, li_1400, li_3440, li_4096, li_9999, li_10000, li_20000, li_20033, li_20038, li_20124, li_32767, li_65535, li_1103515245, li_12345, li_m, sx_grd, sx_clamp, nI_add, sx_sub, pk_mul, sx_le, sx_lt, sx_eq, sx_eqm, sx_meq, sx_lem, sx_mle, sx_ltm, sx_mlt, sx_addm, sx_shl, sx_bit1, sx_bit0, fa_or, uA_s, uA_n, sA_s, sA_n, sx_uA, sx_uAn, sx_sAs, pk_us, pk_un, if_true, if_false, if_pos, if_neg, ob_some, Nat.add_zero, Nat.add_sub_cancel, eq_self, ne_eq, not_true, not_false_iff, false_or, true_or, or_false, or_true, false_and, true_and, and_false, and_true]; exact v1
      · simp (disch := omega) only [bnd_nr, li_0, li_1, li_2, li_3, li_4, li_5, li_6, li_7, li_8, li_9, li_10, li_11, li_12, li_13, li_14, li_15, li_16, li_17, li_18, li_19, li_20, li_21, li_22, li_23, li_24, li_25, li_26, li_27, li_28, li_29, li_30, li_31, li_32, li_33, li_34, li_35, li_36, li_37, li_38, li_39, li_40, li_41, li_42, li_43, li_44, li_45, li_46, li_47, li_48, li_49, li_50, li_51, li_52, li_53, li_54, li_55, li_56, li_57, li_58, li_59, li_60, li_61, li_62, li_63, li_64, li_74, li_86, li_87, li_88, li_96, li_97, li_98, li_99, li_100, li_101, li_102, li_103, li_104, li_105, li_107, li_108, li_109, li_110, li_111, li_112, li_114, li_115, li_116, li_117, li_118, li_121, li_122, li_124, li_136, li_148, li_160, li_680, li_200, li_201, li_255, li_700, li_950, li_1000, li_1400, li_3440, li_4096, li_9999, li_10000, li_20000, li_20033, li_20038, li_20124, li_32767, li_65535, li_1103515245, li_12345, li_m, sx_grd, sx_clamp, nI_add, sx_sub, pk_mul, sx_le, sx_lt, sx_eq, sx_eqm, sx_meq, sx_lem, sx_mle, sx_ltm, sx_mlt, sx_addm, sx_shl, sx_bit1, sx_bit0, fa_or, uA_s, uA_n, sA_s, sA_n, sx_uA, sx_uAn, sx_sAs, pk_us, pk_un, if_true, if_false, if_pos, if_neg, ob_some, Nat.add_zero, Nat.add_sub_cancel, eq_self, ne_eq, not_true, not_false_iff, false_or, true_or, or_false, or_true, false_and, true_and, and_false, and_true]; rfl
      · simp (disch := omega) only [bnd_nr, li_0, li_1, li_2, li_3, li_4, li_5, li_6, li_7, li_8, li_9, li_10, li_11, li_12, li_13, li_14, li_15, li_16, li_17, li_18, li_19, li_20, li_21, li_22, li_23, li_24, li_25, li_26, li_27, li_28, li_29, li_30, li_31, li_32, li_33, li_34, li_35, li_36, li_37, li_38, li_39, li_40, li_41, li_42, li_43, li_44, li_45, li_46, li_47, li_48, li_49, li_50, li_51, li_52, li_53, li_54, li_55, li_56, li_57, li_58, li_59, li_60, li_61, li_62, li_63, li_64, li_74, li_86, li_87, li_88, li_96, li_97, li_98, li_99, li_100, li_101, li_102, li_103, li_104, li_105, li_107, li_108, li_109, li_110, li_111, li_112, li_114, li_115, li_116, li_117, li_118, li_121, li_122, li_124, li_136, li_148, li_160, li_680, li_200, li_201, li_255, li_700, li_950, li_1000, li_1400, li_3440, li_4096, li_9999, li_10000, li_20000, li_20033, li_20038, li_20124, li_32767, li_65535, li_1103515245, li_12345, li_m, sx_grd, sx_clamp, nI_add, sx_sub, pk_mul, sx_le, sx_lt, sx_eq, sx_eqm, sx_meq, sx_lem, sx_mle, sx_ltm, sx_mlt, sx_addm, sx_shl, sx_bit1, sx_bit0, fa_or, uA_s, uA_n, sA_s, sA_n, sx_uA, sx_uAn, sx_sAs, pk_us, pk_un, if_true, if_false, if_pos, if_neg, ob_some, Nat.add_zero, Nat.add_sub_cancel, eq_self, ne_eq, not_true, not_false_iff, false_or, true_or, or_false, or_true, false_and, true_and, and_false, and_true, v3]; rfl
      · have hp : p < vn V := hp
        obtain ⟨q1, q2, q3, q4⟩ := p2 p hp
        obtain ⟨b1, b2, b3, b4⟩ := wp.2.1 p hp
        rw [decide_eq_true b1, Bool.and_true] at q1 q2 q3 q4
        refine ⟨?_, q1, ?_, ?_, q4⟩
        · show B 1 p = nI (rk V p)
          rw [p1]
          simp (disch := omega) only [bnd_nr, li_0, li_1, li_2, li_3, li_4, li_5, li_6, li_7, li_8, li_9, li_10, li_11, li_12, li_13, li_14, li_15, li_16, li_17, li_18, li_19, li_20, li_21, li_22, li_23, li_24, li_25, li_26, li_27, li_28, li_29, li_30, li_31, li_32, li_33, li_34, li_35, li_36, li_37, li_38, li_39, li_40, li_41, li_42, li_43, li_44, li_45, li_46, li_47, li_48, li_49, li_50, li_51, li_52, li_53, li_54, li_55, li_56, li_57, li_58, li_59, li_60, li_61, li_62, li_63, li_64, li_74, li_86, li_87, li_88, li_96, li_97, li_98, li_99, li_100, li_101, li_102, li_103, li_104, li_105, li_107, li_108, li_109, li_110, li_111, li_112, li_114, li_115, li_116, li_117, li_118, li_121, li_122, li_124, li_136, li_148, li_160, li_680, li_200, li_201, li_255, li_700, li_950, li_1000, li_1400, li_3440, li_4096, li_9999, li_10000, li_20000, li_20033, li_20038, li_20124, li_32767, li_65535, li_1103515245, li_12345, li_m, sx_grd, sx_clamp, nI_add, sx_sub, pk_mul, sx_le, sx_lt, sx_eq, sx_eqm, sx_meq, sx_lem, sx_mle, sx_ltm, sx_mlt, sx_addm, sx_shl, sx_bit1, sx_bit0, fa_or, uA_s, uA_n, sA_s, sA_n, sx_uA, sx_uAn, sx_sAs, pk_us, pk_un, if_true, if_false, if_pos, if_neg, ob_some, Nat.add_zero, Nat.add_sub_cancel, eq_self, ne_eq, not_true, not_false_iff, false_or, true_or, or_false, or_true, false_and, true_and, and_false, and_true]
          exact (v4 p hp).1
        · show B 3 p = nI (if goB E Hm.testBit V p then fb_ct (hg (goB E Hm.testBit V) V) (ho V p) else if up (goB E Hm.testBit V) V p then pl V p - 1 else pl V p)
          rw [q2]
          split <;> rfl
        · show B 4 p = nI (ve V + 1 - (if goB E Hm.testBit V p then 0 else si V p + 1))
          rw [q3]
          congr 1
          split <;> omega
      · have hk : k < vh V + anyG (goB E Hm.testBit V) V := hk
        show B 6 k = nI (sz (goV (goB E Hm.testBit V) V) k) ∧ B 7 k = nI (ve V + 1 - (if k < vh V then ol V k + 1 else 0))
        by_cases d : k < vh V
        · obtain ⟨s1, s2⟩ := p3 k d
          have s3 := sz_go (G := goB E Hm.testBit V) d
          have s4 := gg_le g k
          rw [s1, s2, decide_eq_true d, Bool.and_true, if_pos d]
          refine ⟨congrArg nI ?_, congrArg nI (by omega)⟩
          unfold hg
          by_cases z : 0 < gg (goB E Hm.testBit V) V k
          · rw [decide_eq_true z, if_pos rfl]; omega
          · rw [decide_eq_false z, if_neg (by decide)]; omega
        · have a1 : 0 < fb_ct (goB E Hm.testBit V) (vn V) := by
            unfold anyG at hk
            by_cases z : 0 < fb_ct (goB E Hm.testBit V) (vn V)
            · exact z
            · rw [if_neg z] at hk; omega
          have a2 : k = vh V := by
            unfold anyG at hk
            rw [if_pos a1] at hk; omega
          subst a2
          rw [← hg_sum wp g] at a1
          obtain ⟨s1, s2⟩ := p4 a1
          rw [s1, s2, sz_go_new wp, hg_sum wp g, if_neg d]
          exact ⟨rfl, rfl⟩
    simp only [bnd]
    refine RT.bind (c_drop vc (WFP_go w g he)) (fun q5 hq5 => RT.done hQ ⟨o1, hp, hk, hq5⟩)
