/-! the reference's pairs -/
def low (s : Nat) : Nat := fa_first (fun p => !s.testBit p) 13
theorem low_no {s k : Nat} (h : k < low s) : s.testBit k = true := by
  have := fa_first_no (fun p => !s.testBit p) 13 k h
  simpa using this
theorem low_lt {n s : Nat} (h12 : n ≤ 12) (h : s < 2 ^ n - 1) : low s < n ∧ s.testBit (low s) = false := by
  have ex : ∃ k, k < n ∧ s.testBit k = false := by
    refine Classical.byContradiction (fun no => ?_)
    have p := Nat.two_pow_pos n
    have : s = 2 ^ n - 1 := bit_ext (n := n) (by omega) (by omega) (fun i hi => by
      rw [full_bits n i hi]
      cases z : s.testBit i
      · exact absurd ⟨i, hi, z⟩ no
      · rfl)
    omega
  obtain ⟨k, k1, k2⟩ := ex
  have le : low s ≤ k := by
    rcases Nat.lt_or_ge k (low s) with z | z
    · rw [low_no z] at k2; cases k2
    · exact z
  have y := fa_first_yes (fun p => !s.testBit p) 13 (show fa_first (fun p => !s.testBit p) 13 < 13 from by unfold low at le; omega)
  have y2 : (!s.testBit (low s)) = true := y
  exact ⟨by omega, by simpa using y2⟩
theorem m_lowestOut {n s : Nat} (h12 : n ≤ 12) (h : s < 2 ^ n - 1) : f_X12_lowestOut (nI s) = some (nI (low s)) := by
  have p2 := pw12 h12
  obtain ⟨l1, l2⟩ := low_lt h12 h
  refine RT.eq ?_
  refine RT.cps (fun Q hQ => ?_)
  unfold f_X12_lowestOut
  refine RT.loop0 (fun n i (_ : Unit) => f_X12_lowestOut_L2 (nI s) n (nI i)) (low s) (fun _ _ => True) _ () (by omega) trivial ?_ ?_
  · intro n _ _
    show RT (f_X12_lowestOut_L2 (nI s) (n + 1) (nI (low s))) _
    unfold f_X12_lowestOut_L2
    simp (disch := omega) only [bnd_nr, li_0, li_1, li_2, li_3, li_4, li_5, li_6, li_7, li_8, li_9, li_10, li_11, li_12, li_13, li_14, li_15, li_16, li_17, li_18, li_19, li_20, li_21, li_22, li_23, li_24, li_25, li_26, li_27, li_28, li_29, li_30, li_31, li_32, li_33, li_34, li_35, li_36, li_37, li_38, li_39, li_40, li_41, li_42, li_43, li_44, li_45, li_46, li_47, li_48, li_49, li_50, li_51, li_52, li_53, li_54, li_55, li_56, li_57, li_58, li_59, li_60, li_61, li_62, li_63, li_64, li_74, li_86, li_87, li_88, li_96, li_97, li_98, li_99, li_100, li_101, li_102, li_103, li_104, li_105, li_107, li_108, li_109, li_110, li_111, li_112, li_114, li_115, li_116, li_117, li_118, li_121, li_122, li_124, li_136, li_148, li_160, li_680, li_200, li_201, li_255, li_700, li_950, li_1000, li_1400, li_3440, li_4096, li_9999, li_10000, li_20000, li_20033, li_20038, li_20124, li_32767, li_65535, li_1103515245, li_12345, li_m, sx_grd, sx_clamp, nI_add, sx_sub, pk_mul, sx_le, sx_lt, sx_eq, sx_eqm, sx_meq, sx_lem, sx_mle, sx_ltm, sx_mlt, sx_addm, sx_shl, sx_bit1, sx_bit0, fa_or, uA_s, uA_n, sA_s, sA_n, sx_uA, sx_uAn, sx_sAs, pk_us, pk_un, if_true, if_false, if_pos, if_neg, ob_some, Nat.add_zero, Nat.add_sub_cancel, eq_self, ne_eq, not_true, not_false_iff, false_or, true_or, or_false, or_true, false_and, true_and, and_false, and_true, l2, Bool.false_eq_true]
    exact RT.done hQ rfl
  · intro n i _ hi _ hk
    show RT (f_X12_lowestOut_L2 (nI s) (n + 1) (nI i)) _
    unfold f_X12_lowestOut_L2
    simp (disch := omega) only [bnd_nr, li_0, li_1, li_2, li_3, li_4, li_5, li_6, li_7, li_8, li_9, li_10, li_11, li_12, li_13, li_14, li_15, li_16, li_17, li_18, li_19, li_20, li_21, li_22, li_23, li_24, li_25, li_26, li_27, li_28, li_29, li_30, li_31, li_32, li_33, li_34, li_35, li_36, li_37, li_38, li_39, li_40, li_41, li_42, li_43, li_44, li_45, li_46, li_47, li_48, li_49, li_50, li_51, li_52, li_53, li_54, li_55, li_56, li_57, li_58, li_59, li_60, li_61, li_62, li_63, li_64, li_74, li_86, li_87, li_88, li_96, li_97, li_98, li_99, li_100, li_101, li_102, li_103, li_104, li_105, li_107, li_108, li_109, li_110, li_111, li_112, li_114, li_115, li_116, li_117, li_118, li_121, li_122, li_124, li_136, li_148, li_160, li_680, li_200, li_201, li_255, li_700, li_950, li_1000, li_1400, li_3440, li_4096, li_9999, li_10000, li_20000, li_20033, li_20038, li_20124, li_32767, li_65535, li_1103515245, li_12345, li_m, sx_grd, sx_clamp, nI_add, sx_sub, pk_mul, sx_le, sx_lt, sx_eq, sx_eqm, sx_meq, sx_lem, sx_mle, sx_ltm, sx_mlt, sx_addm, sx_shl, sx_bit1, sx_bit0, fa_or, uA_s, uA_n, sA_s, sA_n, sx_uA, sx_uAn, sx_sAs, pk_us, pk_un, if_true, if_false, if_pos, if_neg, ob_some, Nat.add_zero, Nat.add_sub_cancel, eq_self, ne_eq, not_true, not_false_iff, false_or, true_or, or_false, or_true, false_and, true_and, and_false, and_true, low_no hi]
    exact hk () trivial
theorem or_gt {s p : Nat} (h : s.testBit p = false) : s < s ||| 2 ^ p := by
  have a : s ≤ s ||| 2 ^ p := Nat.left_le_or
  rcases Nat.lt_or_ge s (s ||| 2 ^ p) with z | z
  · exact z
  · exfalso
    have e : s = s ||| 2 ^ p := by omega
    have := or_bit s p p
    rw [← e, h] at this
    simp at this
theorem m_apart {a b : Nat} (ha : a < 2147483648) (hb : b < 2147483648) : f_X12_apart (nI a) (nI b) = some (nI (ad a b)) := by
  unfold f_X12_apart ad
  simp (disch := omega) only [bnd_nr, li_0, li_1, li_2, li_3, li_4, li_5, li_6, li_7, li_8, li_9, li_10, li_11, li_12, li_13, li_14, li_15, li_16, li_17, li_18, li_19, li_20, li_21, li_22, li_23, li_24, li_25, li_26, li_27, li_28, li_29, li_30, li_31, li_32, li_33, li_34, li_35, li_36, li_37, li_38, li_39, li_40, li_41, li_42, li_43, li_44, li_45, li_46, li_47, li_48, li_49, li_50, li_51, li_52, li_53, li_54, li_55, li_56, li_57, li_58, li_59, li_60, li_61, li_62, li_63, li_64, li_74, li_86, li_87, li_88, li_96, li_97, li_98, li_99, li_100, li_101, li_102, li_103, li_104, li_105, li_107, li_108, li_109, li_110, li_111, li_112, li_114, li_115, li_116, li_117, li_118, li_121, li_122, li_124, li_136, li_148, li_160, li_680, li_200, li_201, li_255, li_700, li_950, li_1000, li_1400, li_3440, li_4096, li_9999, li_10000, li_20000, li_20033, li_20038, li_20124, li_32767, li_65535, li_1103515245, li_12345, li_m, sx_grd, sx_clamp, nI_add, sx_sub, pk_mul, sx_le, sx_lt, sx_eq, sx_eqm, sx_meq, sx_lem, sx_mle, sx_ltm, sx_mlt, sx_addm, sx_shl, sx_bit1, sx_bit0, fa_or, uA_s, uA_n, sA_s, sA_n, sx_uA, sx_uAn, sx_sAs, pk_us, pk_un, if_true, if_false, if_pos, if_neg, ob_some, Nat.add_zero, Nat.add_sub_cancel, eq_self, ne_eq, not_true, not_false_iff, false_or, true_or, or_false, or_true, false_and, true_and, and_false, and_true]
  by_cases q : b ≤ a
  · rw [if_pos q, if_pos q]
  · rw [if_neg q, if_neg q]
theorem VM.h0 {M : MS} {V : VT} (v : VM M 0 V) : ∀ p, p < vn V → M.2.2 10 (2 + p) = nI (ho V p) := fun p hp => by
  have := v.h p hp
  rw [show 0 + 2 + p = 2 + p by omega] at this
  exact this
theorem VM.r0 {M : MS} {V : VT} (v : VM M 0 V) : ∀ p, p < vn V → M.2.2 10 (50 + p) = nI (rk V p) := fun p hp => by
  have := v.r p hp
  rw [show 0 + 50 + p = 50 + p by omega] at this
  exact this
theorem m_canPair {M : MS} {V : VT} (v : VM M 0 V) (w : WFP V) {p o : Nat} (hp : p < vn V) (ho9 : o < vn V) (n : p ≠ o) : f_X12_canPair M (nI p) (nI o) = some (nI (if ho V p = ho V o then 1 else 0)) := by
  have b0 := w.1
  have b1 := w.2.1 p hp
  have b2 := w.2.1 o ho9
  unfold f_X12_canPair
  simp (disch := omega) only [bnd_nr, li_0, li_1, li_2, li_3, li_4, li_5, li_6, li_7, li_8, li_9, li_10, li_11, li_12, li_13, li_14, li_15, li_16, li_17, li_18, li_19, li_20, li_21, li_22, li_23, li_24, li_25, li_26, li_27, li_28, li_29, li_30, li_31, li_32, li_33, li_34, li_35, li_36, li_37, li_38, li_39, li_40, li_41, li_42, li_43, li_44, li_45, li_46, li_47, li_48, li_49, li_50, li_51, li_52, li_53, li_54, li_55, li_56, li_57, li_58, li_59, li_60, li_61, li_62, li_63, li_64, li_74, li_86, li_87, li_88, li_96, li_97, li_98, li_99, li_100, li_101, li_102, li_103, li_104, li_105, li_107, li_108, li_109, li_110, li_111, li_112, li_114, li_115, li_116, li_117, li_118, li_121, li_122, li_124, li_136, li_148, li_160, li_680, li_200, li_201, li_255, li_700, li_950, li_1000, li_1400, li_3440, li_4096, li_9999, li_10000, li_20000, li_20033, li_20038, li_20124, li_32767, li_65535, li_1103515245, li_12345, li_m, sx_grd, sx_clamp, nI_add, sx_sub, pk_mul, sx_le, sx_lt, sx_eq, sx_eqm, sx_meq, sx_lem, sx_mle, sx_ltm, sx_mlt, sx_addm, sx_shl, sx_bit1, sx_bit0, fa_or, uA_s, uA_n, sA_s, sA_n, sx_uA, sx_uAn, sx_sAs, pk_us, pk_un, if_true, if_false, if_pos, if_neg, ob_some, Nat.add_zero, Nat.add_sub_cancel, eq_self, ne_eq, not_true, not_false_iff, false_or, true_or, or_false, or_true, false_and, true_and, and_false, and_true, v.h0 p hp, v.h0 o ho9]
  split <;> rfl
theorem m_pairs {M : MS} {V : VT} (v : VM M 0 V) (w : WFP V) {s p o : Nat} (hs : s < 2 ^ vn V) (hp : p < vn V) (ho9 : o < vn V) (e : M.2.2 19 (s ||| 2 ^ p ||| 2 ^ o) = nI (PH V (s ||| 2 ^ p ||| 2 ^ o))) : f_X12_pairs M (nI s) (nI p) (nI o) = some (nI (ad (rk V p) (rk V o) + PH V (s ||| 2 ^ p ||| 2 ^ o))) := by
  have b0 := w.1
  have b1 := w.2.1 p hp
  have b2 := w.2.1 o ho9
  have p2 := pw12 b0.1
  have l1 : s ||| 2 ^ p ||| 2 ^ o < 2 ^ vn V := Nat.or_lt_two_pow (Nat.or_lt_two_pow hs (Nat.pow_lt_pow_right (by omega) hp)) (Nat.pow_lt_pow_right (by omega) ho9)
  unfold f_X12_pairs
  simp (disch := omega) only [bnd_nr, li_0, li_1, li_2, li_3, li_4, li_5, li_6, li_7, li_8, li_9, li_10, li_11, li_12, li_13, li_14, li_15, li_16, li_17, li_18, li_19, li_20, li_21, li_22, li_23, li_24, li_25, li_26, li_27, li_28, li_29, li_30, li_31, li_32, li_33, li_34, li_35, li_36, li_37, li_38, li_39, li_40, li_41, li_42, li_43, li_44, li_45, li_46, li_47, li_48, li_49, li_50, li_51, li_52, li_53, li_54, li_55, li_56, li_57, li_58, li_59, li_60, li_61, li_62, li_63, li_64, li_74, li_86, li_87, li_88, li_96, li_97, li_98, li_99, li_100, li_101, li_102, li_103, li_104, li_105, li_107, li_108, li_109, li_110, li_111, li_112, li_114, li_115, li_116, li_117, li_118, li_121, li_122, li_124, li_136, li_148, li_160, li_680, li_200, li_201, li_255, li_700, li_950, li_1000, li_1400, li_3440, li_4096, li_9999, li_10000, li_20000, li_20033, li_20038, li_20124, li_32767, li_65535, li_1103515245, li_12345, li_m, sx_grd, sx_clamp, nI_add, sx_sub, pk_mul, sx_le, sx_lt, sx_eq, sx_eqm, sx_meq, sx_lem, sx_mle, sx_ltm, sx_mlt, sx_addm, sx_shl, sx_bit1, sx_bit0, fa_or, uA_s, uA_n, sA_s, sA_n, sx_uA, sx_uAn, sx_sAs, pk_us, pk_un, if_true, if_false, if_pos, if_neg, ob_some, Nat.add_zero, Nat.add_sub_cancel, eq_self, ne_eq, not_true, not_false_iff, false_or, true_or, or_false, or_true, false_and, true_and, and_false, and_true, v.r0 p hp, v.r0 o ho9, m_apart (show rk V p < 2147483648 by omega) (show rk V o < 2147483648 by omega), e]
def dn (i : Nat) : Int32 := nI i + mO
theorem dn_0 : dn 0 = mO := by decide
theorem dn_s (i : Nat) : dn (i + 1) = nI i := by unfold dn; rw [sx_addm (by omega)]; rfl
theorem PH_all {V : VT} : PH V (2 ^ vn V - 1) = 0 := by
  have z : ∀ h, ph V (lf V (2 ^ vn V - 1) h) = 0 := fun h => by
    have no : ∀ p, p < vn V → lf V (2 ^ vn V - 1) h p = false := fun p hp => by unfold lf; rw [full_bits _ p hp]; rfl
    have c0 : cf V (lf V (2 ^ vn V - 1) h) = 0 := fb_ct_zero.mpr no
    have e0 : Ev V (lf V (2 ^ vn V - 1) h) = 0 := by
      unfold Ev
      have : ∀ r, r < 9 → cl V (lf V (2 ^ vn V - 1) h) r % 2 = 0 := fun r _ => by
        rw [show cl V (lf V (2 ^ vn V - 1) h) r = 0 from fb_ct_zero.mpr (fun p hp => by rw [no p hp]; rfl)]
      rw [fb_sm_cong (g := fun _ => 0) this, fb_sm_const]
    unfold ph Lv
    rw [c0]
    simp [e0]
  unfold PH
  rw [fb_sm_cong (g := fun _ => 0) (fun h _ => z h), fb_sm_const]
  omega
theorem PH_rec {V : VT} (w : WFP V) {s : Nat} (hs : s < 2 ^ vn V - 1) : PH V s ≤ 1000 + PH V (s ||| 2 ^ low s) ∧ (∀ o, low s < o → o < vn V → s.testBit o = false → ho V (low s) = ho V o → PH V s ≤ ad (rk V (low s)) (rk V o) + PH V (s ||| 2 ^ low s ||| 2 ^ o)) ∧ (PH V s = 1000 + PH V (s ||| 2 ^ low s) ∨ ∃ o, low s < o ∧ o < vn V ∧ s.testBit o = false ∧ ho V (low s) = ho V o ∧ PH V s = ad (rk V (low s)) (rk V o) + PH V (s ||| 2 ^ low s ||| 2 ^ o)) := by
  obtain ⟨l1, l2⟩ := low_lt w.1.1 hs
  have fp : lf V s (ho V (low s)) (low s) = true := by unfold lf; rw [l2]; simp
  obtain ⟨r1, r2, r3⟩ := ph_rec w l1 fp
  have o1 := PH_or w (s := s) l1
  refine ⟨by omega, fun o h1 h2 h3 h4 => ?_, ?_⟩
  · have := r2 o h2 (by unfold lf; rw [h3, h4]; simp) (by omega)
    have o2 := PH_or2 w (s := s) l1 h2 h4.symm
    omega
  · rcases r3 with z | ⟨o, z1, z2, z3, z4⟩
    · exact Or.inl (by omega)
    · unfold lf at z2
      rw [Bool.and_eq_true, decide_eq_true_eq] at z2
      have sb : s.testBit o = false := by simpa using z2.1
      have gt : low s < o := by
        rcases Nat.lt_trichotomy o (low s) with y | y | y
        · rw [low_no y] at sb; cases sb
        · exact absurd y z3
        · exact y
      have o2 := PH_or2 w (s := s) l1 z1 z2.2
      exact Or.inr ⟨o, gt, z1, sb, z2.2.symm, by omega⟩
theorem m_laysPairs {M : MS} {V : VT} (v : VM M 0 V) (w : WFP V) : RT (f_X12_laysPairs M) (fun r => r.1 = M.1 ∧ r.2.1 = M.2.1 ∧ (∀ j, j ≠ 19 → r.2.2 j = M.2.2 j) ∧ ∀ s, s < 2 ^ vn V → r.2.2 19 s = nI (PH V s)) := by
  have b0 := w.1
  have p1 := Nat.two_pow_pos (vn V)
  have p2 := pw12 b0.1
  refine RT.cps (fun Q hQ => ?_)
  unfold f_X12_laysPairs
  simp (disch := omega) only [bnd_nr, li_0, li_1, li_2, li_3, li_4, li_5, li_6, li_7, li_8, li_9, li_10, li_11, li_12, li_13, li_14, li_15, li_16, li_17, li_18, li_19, li_20, li_21, li_22, li_23, li_24, li_25, li_26, li_27, li_28, li_29, li_30, li_31, li_32, li_33, li_34, li_35, li_36, li_37, li_38, li_39, li_40, li_41, li_42, li_43, li_44, li_45, li_46, li_47, li_48, li_49, li_50, li_51, li_52, li_53, li_54, li_55, li_56, li_57, li_58, li_59, li_60, li_61, li_62, li_63, li_64, li_74, li_86, li_87, li_88, li_96, li_97, li_98, li_99, li_100, li_101, li_102, li_103, li_104, li_105, li_107, li_108, li_109, li_110, li_111, li_112, li_114, li_115, li_116, li_117, li_118, li_121, li_122, li_124, li_136, li_148, li_160, li_680, li_200, li_201, li_255, li_700, li_950, li_1000, li_1400, li_3440, li_4096, li_9999, li_10000, li_20000, li_20033, li_20038, li_20124, li_32767, li_65535, li_1103515245, li_12345, li_m, sx_grd, sx_clamp, nI_add, sx_sub, pk_mul, sx_le, sx_lt, sx_eq, sx_eqm, sx_meq, sx_lem, sx_mle, sx_ltm, sx_mlt, sx_addm, sx_shl, sx_bit1, sx_bit0, fa_or, uA_s, uA_n, sA_s, sA_n, sx_uA, sx_uAn, sx_sAs, pk_us, pk_un, if_true, if_false, if_pos, if_neg, ob_some, Nat.add_zero, Nat.add_sub_cancel, eq_self, ne_eq, not_true, not_false_iff, false_or, true_or, or_false, or_true, false_and, true_and, and_false, and_true, v.1]
  have st : nI (2 ^ vn V - 1) - nI 1 = dn (2 ^ vn V - 1) := by
    unfold dn
    rw [Int32.sub_eq_add_neg]; rfl
  rw [st]
  refine RT.down (fun n i (z : MS) => f_X12_laysPairs_L20 n (dn i) z) (fun i z => i ≤ 2 ^ vn V - 1 ∧ z.1 = M.1 ∧ z.2.1 = M.2.1 ∧ (∀ j, j ≠ 19 → z.2.2 j = M.2.2 j) ∧ ∀ s, i ≤ s → s < 2 ^ vn V → z.2.2 19 s = nI (PH V s)) _ ?_ ?_ FUEL (2 ^ vn V - 1) _ (by unfold FUEL; omega) ⟨Nat.le_refl _, rfl, rfl, fun j hj => by simp only [uA_n hj], fun s h1 h2 => ?_⟩
  · intro n s z ⟨z0, z1, z2, z3, z4⟩ hk
    show RT (f_X12_laysPairs_L20 (n + 1) (dn (s + 1)) z) _
    have hs : s < 2 ^ vn V - 1 := by omega
    obtain ⟨l1, l2⟩ := low_lt w.1.1 hs
    obtain ⟨r1, r2, r3⟩ := PH_rec w hs
    have pl9 : ∀ t, PH V t ≤ 13117 := PH_le w
    have vz : VM z 0 V := VM_of (by rw [z1]) (z3 10 (by omega)) v
    have o1 := or_gt l2
    have o2 : s ||| 2 ^ low s < 2 ^ vn V := Nat.or_lt_two_pow (by omega) (Nat.pow_lt_pow_right (by omega) l1)
    have a9 := pl9 (s ||| 2 ^ low s)
    have zz := z4 (s ||| 2 ^ low s) (by omega) o2
    rw [dn_s]
    unfold f_X12_laysPairs_L20
    simp (disch := omega) only [bnd_nr, li_0, li_1, li_2, li_3, li_4, li_5, li_6, li_7, li_8, li_9, li_10, li_11, li_12, li_13, li_14, li_15, li_16, li_17, li_18, li_19, li_20, li_21, li_22, li_23, li_24, li_25, li_26, li_27, li_28, li_29, li_30, li_31, li_32, li_33, li_34, li_35, li_36, li_37, li_38, li_39, li_40, li_41, li_42, li_43, li_44, li_45, li_46, li_47, li_48, li_49, li_50, li_51, li_52, li_53, li_54, li_55, li_56, li_57, li_58, li_59, li_60, li_61, li_62, li_63, li_64, li_74, li_86, li_87, li_88, li_96, li_97, li_98, li_99, li_100, li_101, li_102, li_103, li_104, li_105, li_107, li_108, li_109, li_110, li_111, li_112, li_114, li_115, li_116, li_117, li_118, li_121, li_122, li_124, li_136, li_148, li_160, li_680, li_200, li_201, li_255, li_700, li_950, li_1000, li_1400, li_3440, li_4096, li_9999, li_10000, li_20000, li_20033, li_20038, li_20124, li_32767, li_65535, li_1103515245, li_12345, li_m, sx_grd, sx_clamp, nI_add, sx_sub, pk_mul, sx_le, sx_lt, sx_eq, sx_eqm, sx_meq, sx_lem, sx_mle, sx_ltm, sx_mlt, sx_addm, sx_shl, sx_bit1, sx_bit0, fa_or, uA_s, uA_n, sA_s, sA_n, sx_uA, sx_uAn, sx_sAs, pk_us, pk_un, if_true, if_false, if_pos, if_neg, ob_some, Nat.add_zero, Nat.add_sub_cancel, eq_self, ne_eq, not_true, not_false_iff, false_or, true_or, or_false, or_true, false_and, true_and, and_false, and_true, m_lowestOut w.1.1 hs, zz]
    refine RT.loopI (fun m o (l4 : Int32) => f_X12_laysPairs_L50 (f_X12_laysPairs_L20 n) (nI s) (nI (low s)) z m l4 (nI o)) (low s + 1) (vn V) (fun o l4 => ∃ x, l4 = nI x ∧ x ≤ 14117 ∧ PH V s ≤ x ∧ (x = PH V s ∨ ∃ q, o ≤ q ∧ q < vn V ∧ s.testBit q = false ∧ ho V (low s) = ho V q ∧ PH V s = ad (rk V (low s)) (rk V q) + PH V (s ||| 2 ^ low s ||| 2 ^ q))) _ _ (by omega) (by omega) ⟨_, rfl, by omega, r1, ?_⟩ ?_ ?_
    · rcases r3 with y | ⟨q, q1, q2, q3, q4, q5⟩
      · exact Or.inl y.symm
      · exact Or.inr ⟨q, by omega, q2, q3, q4, q5⟩
    · intro m l4 ⟨x, x1, x2, x3, x4⟩
      show RT (f_X12_laysPairs_L50 (f_X12_laysPairs_L20 n) (nI s) (nI (low s)) z (m + 1) l4 (nI (vn V))) _
      have xe : x = PH V s := x4.resolve_right (fun ⟨q, q1, q2, _⟩ => by omega)
      have e9 : nI s + mO = dn s := rfl
      unfold f_X12_laysPairs_L50
      rw [vz.1]
      refine RT.itT (nI_le (Nat.le_refl _) (by omega)) ?_
      rw [sx_grd (by omega) (by omega), bnd_nr, bnd_nr, sx_clamp (by omega), show (-1 : Int32) = mO from rfl, e9]
      refine hk _ ⟨by omega, z1, z2, fun j hj => by simp only [uA_n hj]; exact z3 j hj, fun t h1 h2 => ?_⟩
      simp only [uA_s]
      by_cases ts : t = s
      · subst ts; rw [pk_us, x1, xe]
      · rw [pk_un ts]; exact z4 t (by omega) h2
    · intro m o l4 h0 ho9 ⟨x, x1, x2, x3, x4⟩ hk2
      show RT (f_X12_laysPairs_L50 (f_X12_laysPairs_L20 n) (nI s) (nI (low s)) z (m + 1) l4 (nI o)) _
      have skip : (s.testBit o = false → ho V (low s) ≠ ho V o) → RT (f_X12_laysPairs_L50 (f_X12_laysPairs_L20 n) (nI s) (nI (low s)) z m (nI x) (nI (o + 1))) Q := by
        intro no
        refine hk2 _ ⟨x, rfl, x2, x3, ?_⟩
        rcases x4 with y | ⟨q, q1, q2, q3, q4, q5⟩
        · exact Or.inl y
        · refine Or.inr ⟨q, ?_, q2, q3, q4, q5⟩
          by_cases qo : q = o
          · subst qo; exact absurd q4 (no q3)
          · omega
      unfold f_X12_laysPairs_L50
      simp (disch := omega) only [bnd_nr, li_0, li_1, li_2, li_3, li_4, li_5, li_6, li_7, li_8, li_9, li_10, li_11, li_12, li_13, li_14, li_15, li_16, li_17, li_18, li_19, li_20, li_21, li_22, li_23, li_24, li_25, li_26, li_27, li_28, li_29, li_30, li_31, li_32, li_33, li_34, li_35, li_36, li_37, li_38, li_39, li_40, li_41, li_42, li_43, li_44, li_45, li_46, li_47, li_48, li_49, li_50, li_51, li_52, li_53, li_54, li_55, li_56, li_57, li_58, li_59, li_60, li_61, li_62, li_63, li_64, li_74, li_86, li_87, li_88, li_96, li_97, li_98, li_99, li_100, li_101, li_102, li_103, li_104, li_105, li_107, li_108, li_109, li_110, li_111, li_112, li_114, li_115, li_116, li_117, li_118, li_121, li_122, li_124, li_136, li_148, li_160, li_680, li_200, li_201, li_255, li_700, li_950, li_1000, li_1400, li_3440, li_4096, li_9999, li_10000, li_20000, li_20033, li_20038, li_20124, li_32767, li_65535, li_1103515245, li_12345, li_m, sx_grd, sx_clamp, nI_add, sx_sub, pk_mul, sx_le, sx_lt, sx_eq, sx_eqm, sx_meq, sx_lem, sx_mle, sx_ltm, sx_mlt, sx_addm, sx_shl, sx_bit1, sx_bit0, fa_or, uA_s, uA_n, sA_s, sA_n, sx_uA, sx_uAn, sx_sAs, pk_us, pk_un, if_true, if_false, if_pos, if_neg, ob_some, Nat.add_zero, Nat.add_sub_cancel, eq_self, ne_eq, not_true, not_false_iff, false_or, true_or, or_false, or_true, false_and, true_and, and_false, and_true, vz.1, x1, m_canPair vz w l1 ho9 (show low s ≠ o by omega)]
      refine RT.ite (fun d => ?_) (fun d => skip (fun y => absurd y d))
      by_cases hh9 : ho V (low s) = ho V o
      · have g1 := or_gt (s := s ||| 2 ^ low s) (p := o) (by rw [or_bit, d, decide_eq_false (by omega)]; rfl)
        have g2 : s ||| 2 ^ low s ||| 2 ^ o < 2 ^ vn V := Nat.or_lt_two_pow o2 (Nat.pow_lt_pow_right (by omega) ho9)
        have a8 := pl9 (s ||| 2 ^ low s ||| 2 ^ o)
        have bl := w.2.1 _ l1
        have bo := w.2.1 _ ho9
        have adl : ad (rk V (low s)) (rk V o) ≤ 9 := by unfold ad; split <;> omega
        rw [if_pos hh9]
        have mp := m_pairs vz w (s := s) (p := low s) (o := o) (by omega) l1 ho9 (z4 _ (by omega) g2)
        unfold f_X12_lesser
        simp (disch := omega) only [bnd_nr, li_0, li_1, li_2, li_3, li_4, li_5, li_6, li_7, li_8, li_9, li_10, li_11, li_12, li_13, li_14, li_15, li_16, li_17, li_18, li_19, li_20, li_21, li_22, li_23, li_24, li_25, li_26, li_27, li_28, li_29, li_30, li_31, li_32, li_33, li_34, li_35, li_36, li_37, li_38, li_39, li_40, li_41, li_42, li_43, li_44, li_45, li_46, li_47, li_48, li_49, li_50, li_51, li_52, li_53, li_54, li_55, li_56, li_57, li_58, li_59, li_60, li_61, li_62, li_63, li_64, li_74, li_86, li_87, li_88, li_96, li_97, li_98, li_99, li_100, li_101, li_102, li_103, li_104, li_105, li_107, li_108, li_109, li_110, li_111, li_112, li_114, li_115, li_116, li_117, li_118, li_121, li_122, li_124, li_136, li_148, li_160, li_680, li_200, li_201, li_255, li_700, li_950, li_1000, li_1400, li_3440, li_4096, li_9999, li_10000, li_20000, li_20033, li_20038, li_20124, li_32767, li_65535, li_1103515245, li_12345, li_m, sx_grd, sx_clamp, nI_add, sx_sub, pk_mul, sx_le, sx_lt, sx_eq, sx_eqm, sx_meq, sx_lem, sx_mle, sx_ltm, sx_mlt, sx_addm, sx_shl, sx_bit1, sx_bit0, fa_or, uA_s, uA_n, sA_s, sA_n, sx_uA, sx_uAn, sx_sAs, pk_us, pk_un, if_true, if_false, if_pos, if_neg, ob_some, Nat.add_zero, Nat.add_sub_cancel, eq_self, ne_eq, not_true, not_false_iff, false_or, true_or, or_false, or_true, false_and, true_and, and_false, and_true, mp]
        have up := r2 o (by omega) ho9 d hh9
        have nxt : ∀ y, y ≤ 14117 → PH V s ≤ y → (y = PH V s ∨ (y ≤ ad (rk V (low s)) (rk V o) + PH V (s ||| 2 ^ low s ||| 2 ^ o) ∧ (x = PH V s → y = PH V s) )) → RT (f_X12_laysPairs_L50 (f_X12_laysPairs_L20 n) (nI s) (nI (low s)) z m (nI y) (nI (o + 1))) Q := by
          intro y y1 y2 y3
          refine hk2 _ ⟨y, rfl, y1, y2, ?_⟩
          rcases y3 with t | ⟨t1, t2⟩
          · exact Or.inl t
          · rcases x4 with u | ⟨q, q1, q2, q3, q4, q5⟩
            · exact Or.inl (t2 u)
            · by_cases qo : q = o
              · subst qo; exact Or.inl (by omega)
              · exact Or.inr ⟨q, by omega, q2, q3, q4, q5⟩
        by_cases le : ad (rk V (low s)) (rk V o) + PH V (s ||| 2 ^ low s ||| 2 ^ o) ≤ x
        · simp (disch := omega) only [bnd_nr, li_0, li_1, li_2, li_3, li_4, li_5, li_6, li_7, li_8, li_9, li_10, li_11, li_12, li_13, li_14, li_15, li_16, li_17, li_18, li_19, li_20, li_21, li_22, li_23, li_24, li_25, li_26, li_27, li_28, li_29, li_30, li_31, li_32, li_33, li_34, li_35, li_36, li_37, li_38, li_39, li_40, li_41, li_42, li_43, li_44, li_45, li_46, li_47, li_48, li_49, li_50, li_51, li_52, li_53, li_54, li_55, li_56, li_57, li_58, li_59, li_60, li_61, li_62, li_63, li_64, li_74, li_86, li_87, li_88, li_96, li_97, li_98, li_99, li_100, li_101, li_102, li_103, li_104, li_105, li_107, li_108, li_109, li_110, li_111, li_112, li_114, li_115, li_116, li_117, li_118, li_121, li_122, li_124, li_136, li_148, li_160, li_680, li_200, li_201, li_255, li_700, li_950, li_1000, li_1400, li_3440, li_4096, li_9999, li_10000, li_20000, li_20033, li_20038, li_20124, li_32767, li_65535, li_1103515245, li_12345, li_m, sx_grd, sx_clamp, nI_add, sx_sub, pk_mul, sx_le, sx_lt, sx_eq, sx_eqm, sx_meq, sx_lem, sx_mle, sx_ltm, sx_mlt, sx_addm, sx_shl, sx_bit1, sx_bit0, fa_or, uA_s, uA_n, sA_s, sA_n, sx_uA, sx_uAn, sx_sAs, pk_us, pk_un, if_true, if_false, if_pos, if_neg, ob_some, Nat.add_zero, Nat.add_sub_cancel, eq_self, ne_eq, not_true, not_false_iff, false_or, true_or, or_false, or_true, false_and, true_and, and_false, and_true]
          exact nxt _ (by omega) up (Or.inr ⟨Nat.le_refl _, fun u => by omega⟩)
        · simp (disch := omega) only [bnd_nr, li_0, li_1, li_2, li_3, li_4, li_5, li_6, li_7, li_8, li_9, li_10, li_11, li_12, li_13, li_14, li_15, li_16, li_17, li_18, li_19, li_20, li_21, li_22, li_23, li_24, li_25, li_26, li_27, li_28, li_29, li_30, li_31, li_32, li_33, li_34, li_35, li_36, li_37, li_38, li_39, li_40, li_41, li_42, li_43, li_44, li_45, li_46, li_47, li_48, li_49, li_50, li_51, li_52, li_53, li_54, li_55, li_56, li_57, li_58, li_59, li_60, li_61, li_62, li_63, li_64, li_74, li_86, li_87, li_88, li_96, li_97, li_98, li_99, li_100, li_101, li_102, li_103, li_104, li_105, li_107, li_108, li_109, li_110, li_111, li_112, li_114, li_115, li_116, li_117, li_118, li_121, li_122, li_124, li_136, li_148, li_160, li_680, li_200, li_201, li_255, li_700, li_950, li_1000, li_1400, li_3440, li_4096, li_9999, li_10000, li_20000, li_20033, li_20038, li_20124, li_32767, li_65535, li_1103515245, li_12345, li_m, sx_grd, sx_clamp, nI_add, sx_sub, pk_mul, sx_le, sx_lt, sx_eq, sx_eqm, sx_meq, sx_lem, sx_mle, sx_ltm, sx_mlt, sx_addm, sx_shl, sx_bit1, sx_bit0, fa_or, uA_s, uA_n, sA_s, sA_n, sx_uA, sx_uAn, sx_sAs, pk_us, pk_un, if_true, if_false, if_pos, if_neg, ob_some, Nat.add_zero, Nat.add_sub_cancel, eq_self, ne_eq, not_true, not_false_iff, false_or, true_or, or_false, or_true, false_and, true_and, and_false, and_true]
          exact nxt _ x2 x3 (Or.inr ⟨by omega, fun u => u⟩)
      · rw [if_neg hh9]
        simp (disch := omega) only [bnd_nr, li_0, li_1, li_2, li_3, li_4, li_5, li_6, li_7, li_8, li_9, li_10, li_11, li_12, li_13, li_14, li_15, li_16, li_17, li_18, li_19, li_20, li_21, li_22, li_23, li_24, li_25, li_26, li_27, li_28, li_29, li_30, li_31, li_32, li_33, li_34, li_35, li_36, li_37, li_38, li_39, li_40, li_41, li_42, li_43, li_44, li_45, li_46, li_47, li_48, li_49, li_50, li_51, li_52, li_53, li_54, li_55, li_56, li_57, li_58, li_59, li_60, li_61, li_62, li_63, li_64, li_74, li_86, li_87, li_88, li_96, li_97, li_98, li_99, li_100, li_101, li_102, li_103, li_104, li_105, li_107, li_108, li_109, li_110, li_111, li_112, li_114, li_115, li_116, li_117, li_118, li_121, li_122, li_124, li_136, li_148, li_160, li_680, li_200, li_201, li_255, li_700, li_950, li_1000, li_1400, li_3440, li_4096, li_9999, li_10000, li_20000, li_20033, li_20038, li_20124, li_32767, li_65535, li_1103515245, li_12345, li_m, sx_grd, sx_clamp, nI_add, sx_sub, pk_mul, sx_le, sx_lt, sx_eq, sx_eqm, sx_meq, sx_lem, sx_mle, sx_ltm, sx_mlt, sx_addm, sx_shl, sx_bit1, sx_bit0, fa_or, uA_s, uA_n, sA_s, sA_n, sx_uA, sx_uAn, sx_sAs, pk_us, pk_un, if_true, if_false, if_pos, if_neg, ob_some, Nat.add_zero, Nat.add_sub_cancel, eq_self, ne_eq, not_true, not_false_iff, false_or, true_or, or_false, or_true, false_and, true_and, and_false, and_true]
        exact skip (fun _ => hh9)
  · intro n z ⟨z0, z1, z2, z3, z4⟩
    show RT (f_X12_laysPairs_L20 (n + 1) (dn 0) z) _
    rw [dn_0]
    unfold f_X12_laysPairs_L20
    refine RT.itT (show mO < 0 from by decide) (RT.done hQ ⟨z1, z2, z3, fun s hs => z4 s (by omega) hs⟩)
  · simp only [uA_s]
    have e : s = 2 ^ vn V - 1 := by omega
    subst e
    rw [pk_us, PH_all]
