/-! pasts -/
def PQ (V : VT) (v : Nat) : Bool := decide (vh V - 1 ≤ v) && decide (0 < cq V (vh V) v)
def psV (V : VT) : Nat := fb_ct (PQ V) 13
theorem bits13 {m : Nat} (P : Nat → Bool) (h : ∀ k, k < 13 → m.testBit k = P k) : fb_ct (fun i => m.testBit i) 13 = fb_ct P 13 := fb_ct_cong h
theorem c_pasts {v : Ob} {V : VT} (c : VC v V) (w : WFV V) (hp : 0 < vn V) : f_X10_pasts v = some (nI (psV V)) := by
  have hn := w.hn
  have b0 := w.1.1
  refine RT.eq ?_
  refine RT.cps (fun Q hQ => ?_)
  have h1 : 1 ≤ vh V := by have := (w.1.2.1 0 hp).1; omega
  unfold f_X10_pasts
  simp (disch := omega) only [bnd_nr, li_0, li_1, li_2, li_3, li_4, li_5, li_6, li_7, li_8, li_9, li_10, li_11, li_12, li_13, li_14, li_15, li_16, li_17, li_18, li_19, li_20, li_21, li_22, li_23, li_24, li_25, li_26, li_27, li_28, li_29, li_30, li_31, li_32, li_33, li_34, li_35, li_36, li_37, li_38, li_39, li_40, li_41, li_42, li_43, li_44, li_45, li_46, li_47, li_48, li_49, li_50, li_51, li_52, li_53, li_54, li_55, li_56, li_57, li_58, li_59, li_60, li_61, li_62, li_63, li_64, li_74, li_86, li_87, li_88, li_96, li_97, li_98, li_99, li_100, li_101, li_102, li_103, li_104, li_105, li_107, li_108, li_109, li_110, li_111, li_112, li_114, li_115, li_116, li_117, li_118, li_121, li_122, li_124, li_136, li_148, li_160, li_680, li_200, li_201, li_255, li_700, li_950, li_1000, li_1400, li_3440, li_4096, li_9999, li_10000, li_20000, li_20033, li_20038, li_20124, li_32767, li_65535, li_1103515245, li_12345, li_m, sx_grd, sx_clamp, nI_add, sx_sub, pk_mul, sx_le, sx_lt, sx_eq, sx_eqm, sx_meq, sx_lem, sx_mle, sx_ltm, sx_mlt, sx_addm, sx_shl, sx_bit1, sx_bit0, fa_or, uA_s, uA_n, sA_s, sA_n, sx_uA, sx_uAn, sx_sAs, pk_us, pk_un, if_true, if_false, if_pos, if_neg, ob_some, Nat.add_zero, Nat.add_sub_cancel, eq_self, ne_eq, not_true, not_false_iff, false_or, true_or, or_false, or_true, false_and, true_and, and_false, and_true, c.1.1]
  refine RT.loop0 (fun n i (l1 : Int32) => f_X10_pasts_L13 v n l1 (nI i)) (vh V) (fun i l1 => ∃ m, l1 = nI m ∧ m < 2 ^ 13 ∧ ∀ k, m.testBit k = decide (∃ h, h < i ∧ sz V h = k ∧ vh V - 1 ≤ k)) _ _ (by omega) ⟨0, rfl, by omega, fun k => ?_⟩ ?_ ?_
  · rw [Nat.zero_testBit]
    exact (decide_eq_false (fun ⟨h, z, _⟩ => absurd z (Nat.not_lt_zero _))).symm
  · intro n l1 ⟨m, e, ml, mb⟩
    show RT (f_X10_pasts_L13 v (n + 1) l1 (nI (vh V))) _
    unfold f_X10_pasts_L13
    simp (disch := omega) only [bnd_nr, li_0, li_1, li_2, li_3, li_4, li_5, li_6, li_7, li_8, li_9, li_10, li_11, li_12, li_13, li_14, li_15, li_16, li_17, li_18, li_19, li_20, li_21, li_22, li_23, li_24, li_25, li_26, li_27, li_28, li_29, li_30, li_31, li_32, li_33, li_34, li_35, li_36, li_37, li_38, li_39, li_40, li_41, li_42, li_43, li_44, li_45, li_46, li_47, li_48, li_49, li_50, li_51, li_52, li_53, li_54, li_55, li_56, li_57, li_58, li_59, li_60, li_61, li_62, li_63, li_64, li_74, li_86, li_87, li_88, li_96, li_97, li_98, li_99, li_100, li_101, li_102, li_103, li_104, li_105, li_107, li_108, li_109, li_110, li_111, li_112, li_114, li_115, li_116, li_117, li_118, li_121, li_122, li_124, li_136, li_148, li_160, li_680, li_200, li_201, li_255, li_700, li_950, li_1000, li_1400, li_3440, li_4096, li_9999, li_10000, li_20000, li_20033, li_20038, li_20124, li_32767, li_65535, li_1103515245, li_12345, li_m, sx_grd, sx_clamp, nI_add, sx_sub, pk_mul, sx_le, sx_lt, sx_eq, sx_eqm, sx_meq, sx_lem, sx_mle, sx_ltm, sx_mlt, sx_addm, sx_shl, sx_bit1, sx_bit0, fa_or, uA_s, uA_n, sA_s, sA_n, sx_uA, sx_uAn, sx_sAs, pk_us, pk_un, if_true, if_false, if_pos, if_neg, ob_some, Nat.add_zero, Nat.add_sub_cancel, eq_self, ne_eq, not_true, not_false_iff, false_or, true_or, or_false, or_true, false_and, true_and, and_false, and_true, c.1.2.1, e, j_bitCount (show m < 8192 from ml)]
    refine RT.done hQ (congrArg nI (bits13 _ (fun k _ => ?_)))
    rw [mb, PQ, ← Bool.decide_and, decide_eq_decide]
    constructor
    · intro ⟨h, a1, a2, a3⟩
      exact ⟨a3, fb_ct_pos.mpr ⟨h, a1, decide_eq_true a2⟩⟩
    · intro ⟨a3, a4⟩
      obtain ⟨h, a1, a2⟩ := fb_ct_pos.mp a4
      exact ⟨h, a1, of_decide_eq_true a2, a3⟩
  · intro n i l1 hi ⟨m, e, ml, mb⟩ hk
    show RT (f_X10_pasts_L13 v (n + 1) l1 (nI i)) _
    have s0 := sz_le V i
    have s1 := w.2 i hi
    unfold f_X10_pasts_L13
    simp (disch := omega) only [bnd_nr, li_0, li_1, li_2, li_3, li_4, li_5, li_6, li_7, li_8, li_9, li_10, li_11, li_12, li_13, li_14, li_15, li_16, li_17, li_18, li_19, li_20, li_21, li_22, li_23, li_24, li_25, li_26, li_27, li_28, li_29, li_30, li_31, li_32, li_33, li_34, li_35, li_36, li_37, li_38, li_39, li_40, li_41, li_42, li_43, li_44, li_45, li_46, li_47, li_48, li_49, li_50, li_51, li_52, li_53, li_54, li_55, li_56, li_57, li_58, li_59, li_60, li_61, li_62, li_63, li_64, li_74, li_86, li_87, li_88, li_96, li_97, li_98, li_99, li_100, li_101, li_102, li_103, li_104, li_105, li_107, li_108, li_109, li_110, li_111, li_112, li_114, li_115, li_116, li_117, li_118, li_121, li_122, li_124, li_136, li_148, li_160, li_680, li_200, li_201, li_255, li_700, li_950, li_1000, li_1400, li_3440, li_4096, li_9999, li_10000, li_20000, li_20033, li_20038, li_20124, li_32767, li_65535, li_1103515245, li_12345, li_m, sx_grd, sx_clamp, nI_add, sx_sub, pk_mul, sx_le, sx_lt, sx_eq, sx_eqm, sx_meq, sx_lem, sx_mle, sx_ltm, sx_mlt, sx_addm, sx_shl, sx_bit1, sx_bit0, fa_or, uA_s, uA_n, sA_s, sA_n, sx_uA, sx_uAn, sx_sAs, pk_us, pk_un, if_true, if_false, if_pos, if_neg, ob_some, Nat.add_zero, Nat.add_sub_cancel, eq_self, ne_eq, not_true, not_false_iff, false_or, true_or, or_false, or_true, false_and, true_and, and_false, and_true, c.1.2.1, c.z i hi, e]
    refine RT.ite (fun d => hk _ ⟨m, rfl, ml, fun k => ?_⟩) (fun d => hk _ ⟨m ||| 2 ^ sz V i, rfl, Nat.or_lt_two_pow ml (Nat.pow_lt_pow_right (by omega) (by omega)), fun k => ?_⟩)
    · rw [mb, decide_eq_decide]
      constructor
      · intro ⟨h, a1, a2, a3⟩; exact ⟨h, by omega, a2, a3⟩
      · intro ⟨h, a1, a2, a3⟩
        refine ⟨h, ?_, a2, a3⟩
        by_cases q : h = i
        · subst q; omega
        · omega
    · rw [Nat.testBit_or, Nat.testBit_two_pow, mb, ← Bool.decide_or, decide_eq_decide]
      constructor
      · rintro (⟨h, a1, a2, a3⟩ | z)
        · exact ⟨h, by omega, a2, a3⟩
        · exact ⟨i, by omega, z, by omega⟩
      · rintro ⟨h, a1, a2, a3⟩
        by_cases q : h = i
        · subst q; exact Or.inr a2
        · exact Or.inl ⟨h, by omega, a2, a3⟩
def PK (V : VT) (k v : Nat) : Bool := PQ V v && decide (Cn V (vh V) (v + 1) < k)
theorem PK_step {V : VT} {s : Nat → Nat} (w : WFV V) (ss : SS s (Cn V (vh V))) {k : Nat} (hk : k < vh V) (sl : s k ≤ 12) : fb_ct (PK V (k + 1)) 13 = fb_ct (PK V k) 13 + (if (k = 0 ∨ s k ≠ s (k - 1)) ∧ vh V - 1 ≤ s k then 1 else 0) := by
  have hn := w.hn
  have b0 := w.1.1
  have c1 := Cn_1 w
  have u1 : 1 ≤ s k := (ss k 1 (by omega) (by omega)).mpr (by omega)
  have a1 := ss k (s k) (by omega) u1
  have a2 := ss k (s k + 1) (by omega) (by omega)
  have cc : Cn V (vh V) (s k) = Cn V (vh V) (s k + 1) + cq V (vh V) (s k) := Cn_cq
  have e : ∀ v, v < 13 → PK V (k + 1) v = (if v = s k then (decide (vh V - 1 ≤ s k)) else PK V k v) := by
    intro v hv
    by_cases q : v = s k
    · rw [if_pos q, q, PK, PQ, decide_eq_true (show 0 < cq V (vh V) (s k) by omega), decide_eq_true (show Cn V (vh V) (s k + 1) < k + 1 by omega), Bool.and_true, Bool.and_true]
    · rw [if_neg q, PK, PK]
      cases z : PQ V v
      · rfl
      · rw [Bool.true_and, Bool.true_and, decide_eq_decide]
        unfold PQ at z
        rw [Bool.and_eq_true, decide_eq_true_eq, decide_eq_true_eq] at z
        have v1 : 1 ≤ v := by
          rcases Nat.eq_zero_or_pos v with y | y
          · exfalso
            subst y
            obtain ⟨h, h1, h2⟩ := fb_ct_pos.mp z.2
            have := w.2 h h1
            have := of_decide_eq_true h2
            omega
          · exact y
        have dd : Cn V (vh V) v = Cn V (vh V) (v + 1) + cq V (vh V) v := Cn_cq
        have b1 := ss k v (by omega) v1
        have b2 := ss k (v + 1) (by omega) (by omega)
        omega
  rw [fb_ct_cong e]
  have f := fb_ct_upd (PK V k) (decide (vh V - 1 ≤ s k)) (i := s k) (n := 13) (by omega)
  have g : PK V k (s k) = (decide (vh V - 1 ≤ s k) && decide (Cn V (vh V) (s k + 1) < k)) := by
    rw [PK, PQ, decide_eq_true (show 0 < cq V (vh V) (s k) by omega), Bool.and_true]
  rw [g] at f
  have iff : Cn V (vh V) (s k + 1) < k ↔ ¬ (k = 0 ∨ s k ≠ s (k - 1)) := by
    by_cases k0 : k = 0
    · subst k0; simp
    · have m1 := ss (k - 1) (s k + 1) (by omega) (by omega)
      have m2 := ss (k - 1) (s k) (by omega) u1
      omega
  generalize fb_ct (fun j => if j = s k then decide (vh V - 1 ≤ s k) else PK V k j) 13 = F at f ⊢
  by_cases x : vh V - 1 ≤ s k
  · rw [decide_eq_true x, Bool.true_and] at f
    by_cases y : k = 0 ∨ s k ≠ s (k - 1)
    · rw [if_pos ⟨y, x⟩]
      rw [decide_eq_false (fun z => iff.mp z y)] at f
      simp at f ⊢
      omega
    · rw [if_neg (fun z => y z.1)]
      rw [decide_eq_true (iff.mpr y)] at f
      simp at f ⊢
      omega
  · rw [if_neg (fun z => x z.2)]
    rw [decide_eq_false x, Bool.false_and] at f
    simp at f ⊢
    omega
theorem m_pasts {M : MS} {V : VT} (v : VM M 0 V) (w : WFV V) (hp : 0 < vn V) : RT (f_X12_pasts M) (fun q => q.1 = nI (psV V) ∧ QS M q.2) := by
  refine RT.cps (fun Q hQ => ?_)
  have hn := w.hn
  have b0 := w.1.1
  have h1 : 1 ≤ vh V := by have := (w.1.2.1 0 hp).1; omega
  unfold f_X12_pasts
  refine RT.itF (by rw [v.1]; exact nI_ne0 hp (by omega)) ?_
  refine RT.bind (m_laysSizes (b := 0) v w (by omega)) (fun r ⟨r1, r2, r3, s, s1, s2⟩ => ?_)
  have e0 : r.2.2 10 1 = nI (vh V) := by rw [r3 10 (by omega)]; exact v.n
  have pz : fb_ct (PK V 0) 13 = 0 := fb_ct_zero.mpr (fun k _ => by unfold PK; simp)
  refine RT.loop0 (fun n k (l1 : Int32) => f_X12_pasts_L18 r n l1 (nI k)) (vh V) (fun k l1 => l1 = nI (fb_ct (PK V k) 13)) _ _ (by omega) (by rw [pz]; rfl) ?_ ?_
  · intro n l1 e
    show RT (f_X12_pasts_L18 r (n + 1) l1 (nI (vh V))) _
    unfold f_X12_pasts_L18
    simp (disch := omega) only [bnd_nr, li_0, li_1, li_2, li_3, li_4, li_5, li_6, li_7, li_8, li_9, li_10, li_11, li_12, li_13, li_14, li_15, li_16, li_17, li_18, li_19, li_20, li_21, li_22, li_23, li_24, li_25, li_26, li_27, li_28, li_29, li_30, li_31, li_32, li_33, li_34, li_35, li_36, li_37, li_38, li_39, li_40, li_41, li_42, li_43, li_44, li_45, li_46, li_47, li_48, li_49, li_50, li_51, li_52, li_53, li_54, li_55, li_56, li_57, li_58, li_59, li_60, li_61, li_62, li_63, li_64, li_74, li_86, li_87, li_88, li_96, li_97, li_98, li_99, li_100, li_101, li_102, li_103, li_104, li_105, li_107, li_108, li_109, li_110, li_111, li_112, li_114, li_115, li_116, li_117, li_118, li_121, li_122, li_124, li_136, li_148, li_160, li_680, li_200, li_201, li_255, li_700, li_950, li_1000, li_1400, li_3440, li_4096, li_9999, li_10000, li_20000, li_20033, li_20038, li_20124, li_32767, li_65535, li_1103515245, li_12345, li_m, sx_grd, sx_clamp, nI_add, sx_sub, pk_mul, sx_le, sx_lt, sx_eq, sx_eqm, sx_meq, sx_lem, sx_mle, sx_ltm, sx_mlt, sx_addm, sx_shl, sx_bit1, sx_bit0, fa_or, uA_s, uA_n, sA_s, sA_n, sx_uA, sx_uAn, sx_sAs, pk_us, pk_un, if_true, if_false, if_pos, if_neg, ob_some, Nat.add_zero, Nat.add_sub_cancel, eq_self, ne_eq, not_true, not_false_iff, false_or, true_or, or_false, or_true, false_and, true_and, and_false, and_true, e0]
    refine RT.done hQ ⟨?_, r1, r2, r3⟩
    rw [e]
    refine congrArg nI (fb_ct_cong (fun v hv => ?_))
    rw [PK]
    cases z : PQ V v
    · rfl
    · unfold PQ at z
      rw [Bool.and_eq_true, decide_eq_true_eq, decide_eq_true_eq] at z
      have dd : Cn V (vh V) v = Cn V (vh V) (v + 1) + cq V (vh V) v := Cn_cq
      have := Cn_le V (vh V) v
      rw [decide_eq_true (by omega)]; rfl
  · intro n k l1 hk9 e hk
    show RT (f_X12_pasts_L18 r (n + 1) l1 (nI k)) _
    have sk := s1 k (by omega)
    have st := PK_step w s2 hk9 sk.2
    have fin : ∀ y : Int32, y = nI (fb_ct (PK V k) 13) → (k = 0 ∨ s k ≠ s (k - 1)) → RT (f_X12_pasts_J50 (f_X12_pasts_L18 r n) r (nI k) y) Q := by
      intro y ey cnd
      unfold f_X12_pasts_J50
      simp (disch := omega) only [bnd_nr, li_0, li_1, li_2, li_3, li_4, li_5, li_6, li_7, li_8, li_9, li_10, li_11, li_12, li_13, li_14, li_15, li_16, li_17, li_18, li_19, li_20, li_21, li_22, li_23, li_24, li_25, li_26, li_27, li_28, li_29, li_30, li_31, li_32, li_33, li_34, li_35, li_36, li_37, li_38, li_39, li_40, li_41, li_42, li_43, li_44, li_45, li_46, li_47, li_48, li_49, li_50, li_51, li_52, li_53, li_54, li_55, li_56, li_57, li_58, li_59, li_60, li_61, li_62, li_63, li_64, li_74, li_86, li_87, li_88, li_96, li_97, li_98, li_99, li_100, li_101, li_102, li_103, li_104, li_105, li_107, li_108, li_109, li_110, li_111, li_112, li_114, li_115, li_116, li_117, li_118, li_121, li_122, li_124, li_136, li_148, li_160, li_680, li_200, li_201, li_255, li_700, li_950, li_1000, li_1400, li_3440, li_4096, li_9999, li_10000, li_20000, li_20033, li_20038, li_20124, li_32767, li_65535, li_1103515245, li_12345, li_m, sx_grd, sx_clamp, nI_add, sx_sub, pk_mul, sx_le, sx_lt, sx_eq, sx_eqm, sx_meq, sx_lem, sx_mle, sx_ltm, sx_mlt, sx_addm, sx_shl, sx_bit1, sx_bit0, fa_or, uA_s, uA_n, sA_s, sA_n, sx_uA, sx_uAn, sx_sAs, pk_us, pk_un, if_true, if_false, if_pos, if_neg, ob_some, Nat.add_zero, Nat.add_sub_cancel, eq_self, ne_eq, not_true, not_false_iff, false_or, true_or, or_false, or_true, false_and, true_and, and_false, and_true, e0, sk.1, ey]
      refine RT.ite (fun d => hk _ ?_) (fun d => hk _ ?_)
      · rw [st, if_neg (by omega), Nat.add_zero]
      · rw [st, if_pos ⟨cnd, by omega⟩]
    unfold f_X12_pasts_L18
    by_cases k0 : k = 0
    · subst k0
      simp (disch := omega) only [bnd_nr, li_0, li_1, li_2, li_3, li_4, li_5, li_6, li_7, li_8, li_9, li_10, li_11, li_12, li_13, li_14, li_15, li_16, li_17, li_18, li_19, li_20, li_21, li_22, li_23, li_24, li_25, li_26, li_27, li_28, li_29, li_30, li_31, li_32, li_33, li_34, li_35, li_36, li_37, li_38, li_39, li_40, li_41, li_42, li_43, li_44, li_45, li_46, li_47, li_48, li_49, li_50, li_51, li_52, li_53, li_54, li_55, li_56, li_57, li_58, li_59, li_60, li_61, li_62, li_63, li_64, li_74, li_86, li_87, li_88, li_96, li_97, li_98, li_99, li_100, li_101, li_102, li_103, li_104, li_105, li_107, li_108, li_109, li_110, li_111, li_112, li_114, li_115, li_116, li_117, li_118, li_121, li_122, li_124, li_136, li_148, li_160, li_680, li_200, li_201, li_255, li_700, li_950, li_1000, li_1400, li_3440, li_4096, li_9999, li_10000, li_20000, li_20033, li_20038, li_20124, li_32767, li_65535, li_1103515245, li_12345, li_m, sx_grd, sx_clamp, nI_add, sx_sub, pk_mul, sx_le, sx_lt, sx_eq, sx_eqm, sx_meq, sx_lem, sx_mle, sx_ltm, sx_mlt, sx_addm, sx_shl, sx_bit1, sx_bit0, fa_or, uA_s, uA_n, sA_s, sA_n, sx_uA, sx_uAn, sx_sAs, pk_us, pk_un, if_true, if_false, if_pos, if_neg, ob_some, Nat.add_zero, Nat.add_sub_cancel, eq_self, ne_eq, not_true, not_false_iff, false_or, true_or, or_false, or_true, false_and, true_and, and_false, and_true, e0]
      exact fin _ e (Or.inl rfl)
    · have sk1 := s1 (k - 1) (by omega)
      simp (disch := omega) only [bnd_nr, li_0, li_1, li_2, li_3, li_4, li_5, li_6, li_7, li_8, li_9, li_10, li_11, li_12, li_13, li_14, li_15, li_16, li_17, li_18, li_19, li_20, li_21, li_22, li_23, li_24, li_25, li_26, li_27, li_28, li_29, li_30, li_31, li_32, li_33, li_34, li_35, li_36, li_37, li_38, li_39, li_40, li_41, li_42, li_43, li_44, li_45, li_46, li_47, li_48, li_49, li_50, li_51, li_52, li_53, li_54, li_55, li_56, li_57, li_58, li_59, li_60, li_61, li_62, li_63, li_64, li_74, li_86, li_87, li_88, li_96, li_97, li_98, li_99, li_100, li_101, li_102, li_103, li_104, li_105, li_107, li_108, li_109, li_110, li_111, li_112, li_114, li_115, li_116, li_117, li_118, li_121, li_122, li_124, li_136, li_148, li_160, li_680, li_200, li_201, li_255, li_700, li_950, li_1000, li_1400, li_3440, li_4096, li_9999, li_10000, li_20000, li_20033, li_20038, li_20124, li_32767, li_65535, li_1103515245, li_12345, li_m, sx_grd, sx_clamp, nI_add, sx_sub, pk_mul, sx_le, sx_lt, sx_eq, sx_eqm, sx_meq, sx_lem, sx_mle, sx_ltm, sx_mlt, sx_addm, sx_shl, sx_bit1, sx_bit0, fa_or, uA_s, uA_n, sA_s, sA_n, sx_uA, sx_uAn, sx_sAs, pk_us, pk_un, if_true, if_false, if_pos, if_neg, ob_some, Nat.add_zero, Nat.add_sub_cancel, eq_self, ne_eq, not_true, not_false_iff, false_or, true_or, or_false, or_true, false_and, true_and, and_false, and_true, e0, sk.1, sk1.1]
      refine RT.ite (fun d => hk _ ?_) (fun d => fin _ e (Or.inr d))
      rw [st, if_neg (fun z => z.1.elim k0 (fun y => y d)), e, nI_add]
/-! keys of sizes -/
def kyV (V : VT) : Nat := fb_sm (fun h => 16 ^ (sz V h - 1)) (vh V)
theorem key_shl {k : Nat} (h : k ≤ 15) : (1 : Int64) <<< ((nI (4 * k)).toInt64 &&& 63) = lN (16 ^ k) := by
  rw [show (1 : Int64) = lN 1 from rfl, wb_shl 1 (by omega), Nat.one_mul, p16]
theorem c_sizesKey {v : Ob} {V : VT} (c : VC v V) (w : WFV V) : f_X10_sizesKey v = some (lN (kyV V)) := by
  have hn := w.hn
  have b0 := w.1.1
  refine RT.eq ?_
  refine RT.cps (fun Q hQ => ?_)
  unfold f_X10_sizesKey
  simp only [bnd_nr]
  refine RT.loop0 (fun n i (l1 : Int64) => f_X10_sizesKey_L4 v n l1 (nI i)) (vh V) (fun i l1 => l1 = lN (fb_sm (fun h => 16 ^ (sz V h - 1)) i)) _ _ (by omega) rfl ?_ ?_
  · intro n l1 e
    show RT (f_X10_sizesKey_L4 v (n + 1) l1 (nI (vh V))) _
    unfold f_X10_sizesKey_L4
    simp (disch := omega) only [bnd_nr, li_0, li_1, li_2, li_3, li_4, li_5, li_6, li_7, li_8, li_9, li_10, li_11, li_12, li_13, li_14, li_15, li_16, li_17, li_18, li_19, li_20, li_21, li_22, li_23, li_24, li_25, li_26, li_27, li_28, li_29, li_30, li_31, li_32, li_33, li_34, li_35, li_36, li_37, li_38, li_39, li_40, li_41, li_42, li_43, li_44, li_45, li_46, li_47, li_48, li_49, li_50, li_51, li_52, li_53, li_54, li_55, li_56, li_57, li_58, li_59, li_60, li_61, li_62, li_63, li_64, li_74, li_86, li_87, li_88, li_96, li_97, li_98, li_99, li_100, li_101, li_102, li_103, li_104, li_105, li_107, li_108, li_109, li_110, li_111, li_112, li_114, li_115, li_116, li_117, li_118, li_121, li_122, li_124, li_136, li_148, li_160, li_680, li_200, li_201, li_255, li_700, li_950, li_1000, li_1400, li_3440, li_4096, li_9999, li_10000, li_20000, li_20033, li_20038, li_20124, li_32767, li_65535, li_1103515245, li_12345, li_m, sx_grd, sx_clamp, nI_add, sx_sub, pk_mul, sx_le, sx_lt, sx_eq, sx_eqm, sx_meq, sx_lem, sx_mle, sx_ltm, sx_mlt, sx_addm, sx_shl, sx_bit1, sx_bit0, fa_or, uA_s, uA_n, sA_s, sA_n, sx_uA, sx_uAn, sx_sAs, pk_us, pk_un, if_true, if_false, if_pos, if_neg, ob_some, Nat.add_zero, Nat.add_sub_cancel, eq_self, ne_eq, not_true, not_false_iff, false_or, true_or, or_false, or_true, false_and, true_and, and_false, and_true, c.1.2.1]
    exact RT.done hQ e
  · intro n i l1 hi e hk
    show RT (f_X10_sizesKey_L4 v (n + 1) l1 (nI i)) _
    have s0 := sz_le V i
    have s1 := w.2 i hi
    unfold f_X10_sizesKey_L4
    simp (disch := omega) only [bnd_nr, li_0, li_1, li_2, li_3, li_4, li_5, li_6, li_7, li_8, li_9, li_10, li_11, li_12, li_13, li_14, li_15, li_16, li_17, li_18, li_19, li_20, li_21, li_22, li_23, li_24, li_25, li_26, li_27, li_28, li_29, li_30, li_31, li_32, li_33, li_34, li_35, li_36, li_37, li_38, li_39, li_40, li_41, li_42, li_43, li_44, li_45, li_46, li_47, li_48, li_49, li_50, li_51, li_52, li_53, li_54, li_55, li_56, li_57, li_58, li_59, li_60, li_61, li_62, li_63, li_64, li_74, li_86, li_87, li_88, li_96, li_97, li_98, li_99, li_100, li_101, li_102, li_103, li_104, li_105, li_107, li_108, li_109, li_110, li_111, li_112, li_114, li_115, li_116, li_117, li_118, li_121, li_122, li_124, li_136, li_148, li_160, li_680, li_200, li_201, li_255, li_700, li_950, li_1000, li_1400, li_3440, li_4096, li_9999, li_10000, li_20000, li_20033, li_20038, li_20124, li_32767, li_65535, li_1103515245, li_12345, li_m, sx_grd, sx_clamp, nI_add, sx_sub, pk_mul, sx_le, sx_lt, sx_eq, sx_eqm, sx_meq, sx_lem, sx_mle, sx_ltm, sx_mlt, sx_addm, sx_shl, sx_bit1, sx_bit0, fa_or, uA_s, uA_n, sA_s, sA_n, sx_uA, sx_uAn, sx_sAs, pk_us, pk_un, if_true, if_false, if_pos, if_neg, ob_some, Nat.add_zero, Nat.add_sub_cancel, eq_self, ne_eq, not_true, not_false_iff, false_or, true_or, or_false, or_true, false_and, true_and, and_false, and_true, c.1.2.1, c.z i hi, key_shl, e, lN_add]
    exact hk _ rfl
def dig (f : Nat → Nat) : Nat → Nat | 0 => 0 | n + 1 => dig f n + f n * 16 ^ n
theorem dig_lt {f : Nat → Nat} (h : ∀ k, f k ≤ 15) : ∀ n, dig f n < 16 ^ n
  | 0 => by simp [dig]
  | n + 1 => by
    have := dig_lt h n
    have m : f n * 16 ^ n ≤ 15 * 16 ^ n := Nat.mul_le_mul_right _ (h n)
    rw [dig, Nat.pow_succ]
    omega
theorem dig_inj {f g : Nat → Nat} (hf : ∀ k, f k ≤ 15) (hg : ∀ k, g k ≤ 15) : ∀ {n : Nat}, dig f n = dig g n → ∀ k, k < n → f k = g k
  | 0, _, k, hk => absurd hk (Nat.not_lt_zero _)
  | n + 1, e, k, hk => by
    have a := dig_lt hf n
    have b := dig_lt hg n
    rw [dig, dig] at e
    have e1 : f n = g n := by
      have x := congrArg (fun y => y / 16 ^ n) e
      simp only [Nat.add_mul_div_right _ _ (Nat.pow_pos (n := n) (show 0 < 16 by omega)), Nat.div_eq_of_lt a, Nat.div_eq_of_lt b] at x
      omega
    have e2 : dig f n = dig g n := by rw [e1] at e; omega
    rcases Nat.lt_or_ge k n with q | q
    · exact dig_inj hf hg e2 k q
    · have : k = n := by omega
      subst this; exact e1
theorem ky_dig {V : VT} (w : WFV V) : kyV V = dig (fun v => cq V (vh V) (v + 1)) 12 := by
  have b0 := w.1.1
  have key : ∀ h, h ≤ vh V → fb_sm (fun h => 16 ^ (sz V h - 1)) h = dig (fun v => cq V h (v + 1)) 12 := by
    intro h
    induction h with
    | zero =>
      intro _
      show 0 = _
      unfold dig
      simp [dig, cq, fb_ct]
    | succ h ih =>
      intro hh
      rw [fb_sm_succ, ih (by omega)]
      have s0 := sz_le V h
      have s1 := w.2 h (by omega)
      have add : ∀ n, dig (fun v => cq V (h + 1) (v + 1)) n = dig (fun v => cq V h (v + 1)) n + (if sz V h - 1 < n then 16 ^ (sz V h - 1) else 0) := by
        intro n
        induction n with
        | zero => rfl
        | succ n ih2 =>
          rw [dig, dig, ih2]
          have e : cq V (h + 1) (n + 1) = cq V h (n + 1) + (if sz V h = n + 1 then 1 else 0) := by
            unfold cq
            rw [fb_ct_succ]
            simp only [decide_eq_true_eq]
          rw [e]
          by_cases q : sz V h = n + 1
          · rw [if_pos q, if_neg (by omega), if_pos (by omega), q, Nat.add_mul, Nat.one_mul, Nat.add_sub_cancel]; omega
          · rw [if_neg q, Nat.add_zero]
            by_cases p : sz V h - 1 < n
            · rw [if_pos p, if_pos (by omega)]; omega
            · rw [if_neg p, if_neg (by omega)]; omega
      rw [add 12, if_pos (by omega)]
  exact key _ (Nat.le_refl _)
theorem cq_le (V : VT) (h v : Nat) : cq V h v ≤ h := fb_ct_le _ _
theorem ky_iff {V W : VT} {s t : Nat → Nat} (w : WFV V) (x : WFV W) (ss : SS s (Cn V (vh V))) (tt : SS t (Cn W (vh W))) : kyV V = kyV W ↔ ∀ k, k < 12 → s k = t k := by
  have hv := w.hn
  have hx := x.hn
  have b0 := w.1.1
  have b1 := x.1.1
  have small : ∀ (Z : VT), WFV Z → ∀ k, cq Z (vh Z) (k + 1) ≤ 15 := fun Z z k => by
    have := cq_le Z (vh Z) (k + 1)
    have := z.hn
    have := z.1.1
    omega
  constructor
  · intro e
    rw [ky_dig w, ky_dig x] at e
    have d := dig_inj (small V w) (small W x) e
    have c : ∀ j v, v + j = 13 → Cn V (vh V) v = Cn W (vh W) v := by
      intro j
      induction j with
      | zero => intro v hv9; rw [Cn_big (by omega), Cn_big (by omega)]
      | succ j ih =>
        intro v hv9
        rcases Nat.eq_zero_or_pos v with z | z
        · have c0 : ∀ Z : VT, Cn Z (vh Z) 0 = vh Z := fun Z => fb_ct_all.mpr (fun k _ => by simp)
          subst z
          rw [c0, c0, ← Cn_1 w, ← Cn_1 x]
          exact ih 1 (by omega)
        · rw [Cn_cq (V := V), Cn_cq (V := W), ih (v + 1) (by omega)]
          have this : cq V (vh V) (v - 1 + 1) = cq W (vh W) (v - 1 + 1) := d (v - 1) (by omega)
          rw [show v - 1 + 1 = v by omega] at this
          rw [this]
    intro k hk
    have c2 : ∀ v, 1 ≤ v → Cn V (vh V) v = Cn W (vh W) v := fun v hv9 => by
      rcases Nat.lt_or_ge v 14 with z | z
      · exact c (13 - v) v (by omega)
      · rw [Cn_big (by omega), Cn_big (by omega)]
    have a : ∀ v, 1 ≤ v → (v ≤ s k ↔ v ≤ t k) := fun v hv9 => by rw [ss k v hk hv9, tt k v hk hv9, c2 v hv9]
    have p := a (s k)
    have q := a (t k)
    omega
  · intro e
    have c : ∀ v, 1 ≤ v → Cn V (vh V) v = Cn W (vh W) v := fun v hv9 => by
      have l1 := Cn_le V (vh V) v
      have l2 := Cn_le W (vh W) v
      have a : ∀ k, k < 12 → (k < Cn V (vh V) v ↔ k < Cn W (vh W) v) := fun k hk => by rw [← ss k v hk hv9, ← tt k v hk hv9, e k hk]
      have p := a (Cn V (vh V) v)
      have q := a (Cn W (vh W) v)
      omega
    rw [ky_dig w, ky_dig x]
    have d : ∀ v, cq V (vh V) (v + 1) = cq W (vh W) (v + 1) := fun v => by
      have p := c (v + 1) (by omega)
      have q := c (v + 1 + 1) (by omega)
      rw [Cn_cq (V := V), Cn_cq (V := W)] at p
      omega
    rw [funext d]
theorem ky_lt {V : VT} (w : WFV V) : kyV V < 2 ^ 63 := by
  rw [ky_dig w]
  refine Nat.lt_of_lt_of_le (dig_lt (f := fun v => cq V (vh V) (v + 1)) (fun k => ?_) 12) (by decide)
  have := cq_le V (vh V) (k + 1)
  have := w.hn
  have := w.1.1
  show cq V (vh V) (k + 1) ≤ 15
  omega
/-! alone -/
def alV (V : VT) : Nat := msk (fun p => decide (sz V (ho V p) = 1)) (vn V)
theorem c_isAlone {v : Ob} {V : VT} (c : VC v V) (w : WFV V) {p : Nat} (hp : p < vn V) : f_X10_isAlone v (nI p) = some (nI (if sz V (ho V p) = 1 then 1 else 0)) := by
  have b0 := w.1.1
  have b1 := w.1.2.1 p hp
  have s0 := sz_le V (ho V p)
  unfold f_X10_isAlone
  simp (disch := omega) only [bnd_nr, li_0, li_1, li_2, li_3, li_4, li_5, li_6, li_7, li_8, li_9, li_10, li_11, li_12, li_13, li_14, li_15, li_16, li_17, li_18, li_19, li_20, li_21, li_22, li_23, li_24, li_25, li_26, li_27, li_28, li_29, li_30, li_31, li_32, li_33, li_34, li_35, li_36, li_37, li_38, li_39, li_40, li_41, li_42, li_43, li_44, li_45, li_46, li_47, li_48, li_49, li_50, li_51, li_52, li_53, li_54, li_55, li_56, li_57, li_58, li_59, li_60, li_61, li_62, li_63, li_64, li_74, li_86, li_87, li_88, li_96, li_97, li_98, li_99, li_100, li_101, li_102, li_103, li_104, li_105, li_107, li_108, li_109, li_110, li_111, li_112, li_114, li_115, li_116, li_117, li_118, li_121, li_122, li_124, li_136, li_148, li_160, li_680, li_200, li_201, li_255, li_700, li_950, li_1000, li_1400, li_3440, li_4096, li_9999, li_10000, li_20000, li_20033, li_20038, li_20124, li_32767, li_65535, li_1103515245, li_12345, li_m, sx_grd, sx_clamp, nI_add, sx_sub, pk_mul, sx_le, sx_lt, sx_eq, sx_eqm, sx_meq, sx_lem, sx_mle, sx_ltm, sx_mlt, sx_addm, sx_shl, sx_bit1, sx_bit0, fa_or, uA_s, uA_n, sA_s, sA_n, sx_uA, sx_uAn, sx_sAs, pk_us, pk_un, if_true, if_false, if_pos, if_neg, ob_some, Nat.add_zero, Nat.add_sub_cancel, eq_self, ne_eq, not_true, not_false_iff, false_or, true_or, or_false, or_true, false_and, true_and, and_false, and_true, c.h p hp, c.z _ b1.1]
  split <;> rfl
theorem c_alone {v : Ob} {V : VT} (c : VC v V) (w : WFV V) : f_X10_alone v = some (nI (alV V)) := by
  have b0 := w.1.1
  refine RT.eq ?_
  refine RT.cps (fun Q hQ => ?_)
  unfold f_X10_alone
  refine RT.loop0 (fun n i (l1 : Int32) => f_X10_alone_L4 v n l1 (nI i)) (vn V) (fun i l1 => l1 = nI (msk (fun p => decide (sz V (ho V p) = 1)) i)) _ _ (by omega) rfl ?_ ?_
  · intro n l1 e
    show RT (f_X10_alone_L4 v (n + 1) l1 (nI (vn V))) _
    unfold f_X10_alone_L4
    simp (disch := omega) only [bnd_nr, li_0, li_1, li_2, li_3, li_4, li_5, li_6, li_7, li_8, li_9, li_10, li_11, li_12, li_13, li_14, li_15, li_16, li_17, li_18, li_19, li_20, li_21, li_22, li_23, li_24, li_25, li_26, li_27, li_28, li_29, li_30, li_31, li_32, li_33, li_34, li_35, li_36, li_37, li_38, li_39, li_40, li_41, li_42, li_43, li_44, li_45, li_46, li_47, li_48, li_49, li_50, li_51, li_52, li_53, li_54, li_55, li_56, li_57, li_58, li_59, li_60, li_61, li_62, li_63, li_64, li_74, li_86, li_87, li_88, li_96, li_97, li_98, li_99, li_100, li_101, li_102, li_103, li_104, li_105, li_107, li_108, li_109, li_110, li_111, li_112, li_114, li_115, li_116, li_117, li_118, li_121, li_122, li_124, li_136, li_148, li_160, li_680, li_200, li_201, li_255, li_700, li_950, li_1000, li_1400, li_3440, li_4096, li_9999, li_10000, li_20000, li_20033, li_20038, li_20124, li_32767, li_65535, li_1103515245, li_12345, li_m, sx_grd, sx_clamp, nI_add, sx_sub, pk_mul, sx_le, sx_lt, sx_eq, sx_eqm, sx_meq, sx_lem, sx_mle, sx_ltm, sx_mlt, sx_addm, sx_shl, sx_bit1, sx_bit0, fa_or, uA_s, uA_n, sA_s, sA_n, sx_uA, sx_uAn, sx_sAs, pk_us, pk_un, if_true, if_false, if_pos, if_neg, ob_some, Nat.add_zero, Nat.add_sub_cancel, eq_self, ne_eq, not_true, not_false_iff, false_or, true_or, or_false, or_true, false_and, true_and, and_false, and_true, c.1.1]
    exact RT.done hQ e
  · intro n i l1 hi e hk
    show RT (f_X10_alone_L4 v (n + 1) l1 (nI i)) _
    unfold f_X10_alone_L4
    by_cases q : sz V (ho V i) = 1
    · simp (disch := omega) only [bnd_nr, li_0, li_1, li_2, li_3, li_4, li_5, li_6, li_7, li_8, li_9, li_10, li_11, li_12, li_13, li_14, li_15, li_16, li_17, li_18, li_19, li_20, li_21, li_22, li_23, li_24, li_25, li_26, li_27, li_28, li_29, li_30, li_31, li_32, li_33, li_34, li_35, li_36, li_37, li_38, li_39, li_40, li_41, li_42, li_43, li_44, li_45, li_46, li_47, li_48, li_49, li_50, li_51, li_52, li_53, li_54, li_55, li_56, li_57, li_58, li_59, li_60, li_61, li_62, li_63, li_64, li_74, li_86, li_87, li_88, li_96, li_97, li_98, li_99, li_100, li_101, li_102, li_103, li_104, li_105, li_107, li_108, li_109, li_110, li_111, li_112, li_114, li_115, li_116, li_117, li_118, li_121, li_122, li_124, li_136, li_148, li_160, li_680, li_200, li_201, li_255, li_700, li_950, li_1000, li_1400, li_3440, li_4096, li_9999, li_10000, li_20000, li_20033, li_20038, li_20124, li_32767, li_65535, li_1103515245, li_12345, li_m, sx_grd, sx_clamp, nI_add, sx_sub, pk_mul, sx_le, sx_lt, sx_eq, sx_eqm, sx_meq, sx_lem, sx_mle, sx_ltm, sx_mlt, sx_addm, sx_shl, sx_bit1, sx_bit0, fa_or, uA_s, uA_n, sA_s, sA_n, sx_uA, sx_uAn, sx_sAs, pk_us, pk_un, if_true, if_false, if_pos, if_neg, ob_some, Nat.add_zero, Nat.add_sub_cancel, eq_self, ne_eq, not_true, not_false_iff, false_or, true_or, or_false, or_true, false_and, true_and, and_false, and_true, c.1.1, c_isAlone c w hi, e, q]
      exact hk _ (by rw [msk_step (decide_eq_true q)])
    · simp (disch := omega) only [bnd_nr, li_0, li_1, li_2, li_3, li_4, li_5, li_6, li_7, li_8, li_9, li_10, li_11, li_12, li_13, li_14, li_15, li_16, li_17, li_18, li_19, li_20, li_21, li_22, li_23, li_24, li_25, li_26, li_27, li_28, li_29, li_30, li_31, li_32, li_33, li_34, li_35, li_36, li_37, li_38, li_39, li_40, li_41, li_42, li_43, li_44, li_45, li_46, li_47, li_48, li_49, li_50, li_51, li_52, li_53, li_54, li_55, li_56, li_57, li_58, li_59, li_60, li_61, li_62, li_63, li_64, li_74, li_86, li_87, li_88, li_96, li_97, li_98, li_99, li_100, li_101, li_102, li_103, li_104, li_105, li_107, li_108, li_109, li_110, li_111, li_112, li_114, li_115, li_116, li_117, li_118, li_121, li_122, li_124, li_136, li_148, li_160, li_680, li_200, li_201, li_255, li_700, li_950, li_1000, li_1400, li_3440, li_4096, li_9999, li_10000, li_20000, li_20033, li_20038, li_20124, li_32767, li_65535, li_1103515245, li_12345, li_m, sx_grd, sx_clamp, nI_add, sx_sub, pk_mul, sx_le, sx_lt, sx_eq, sx_eqm, sx_meq, sx_lem, sx_mle, sx_ltm, sx_mlt, sx_addm, sx_shl, sx_bit1, sx_bit0, fa_or, uA_s, uA_n, sA_s, sA_n, sx_uA, sx_uAn, sx_sAs, pk_us, pk_un, if_true, if_false, if_pos, if_neg, ob_some, Nat.add_zero, Nat.add_sub_cancel, eq_self, ne_eq, not_true, not_false_iff, false_or, true_or, or_false, or_true, false_and, true_and, and_false, and_true, c.1.1, c_isAlone c w hi, e, if_neg q]
      exact hk _ (by rw [msk_stay (decide_eq_false q)])
theorem m_aloneOnes {M : MS} {b : Nat} {V : VT} (v : VM M b V) (w : WFV V) (hb : b ≤ 86) : f_X12_aloneOnes M (nI b) = some (nI (alV V)) := by
  have b0 := w.1.1
  have hn := w.hn
  refine RT.eq ?_
  refine RT.cps (fun Q hQ => ?_)
  unfold f_X12_aloneOnes
  refine RT.loop0 (fun n i (l2 : Int32) => f_X12_aloneOnes_L4 (nI b) M n l2 (nI i)) (vh V) (fun i l2 => l2 = nI (msk (fun p => decide (sz V (ho V p) = 1) && decide (ho V p < i)) (vn V))) _ _ (by omega) ?_ ?_ ?_
  · show nI 0 = _
    congr 1
    exact (msk_zero.mpr (fb_ct_zero.mpr (fun k _ => by simp))).symm
  · intro n l2 e
    show RT (f_X12_aloneOnes_L4 (nI b) M (n + 1) l2 (nI (vh V))) _
    unfold f_X12_aloneOnes_L4
    simp (disch := omega) only [bnd_nr, li_0, li_1, li_2, li_3, li_4, li_5, li_6, li_7, li_8, li_9, li_10, li_11, li_12, li_13, li_14, li_15, li_16, li_17, li_18, li_19, li_20, li_21, li_22, li_23, li_24, li_25, li_26, li_27, li_28, li_29, li_30, li_31, li_32, li_33, li_34, li_35, li_36, li_37, li_38, li_39, li_40, li_41, li_42, li_43, li_44, li_45, li_46, li_47, li_48, li_49, li_50, li_51, li_52, li_53, li_54, li_55, li_56, li_57, li_58, li_59, li_60, li_61, li_62, li_63, li_64, li_74, li_86, li_87, li_88, li_96, li_97, li_98, li_99, li_100, li_101, li_102, li_103, li_104, li_105, li_107, li_108, li_109, li_110, li_111, li_112, li_114, li_115, li_116, li_117, li_118, li_121, li_122, li_124, li_136, li_148, li_160, li_680, li_200, li_201, li_255, li_700, li_950, li_1000, li_1400, li_3440, li_4096, li_9999, li_10000, li_20000, li_20033, li_20038, li_20124, li_32767, li_65535, li_1103515245, li_12345, li_m, sx_grd, sx_clamp, nI_add, sx_sub, pk_mul, sx_le, sx_lt, sx_eq, sx_eqm, sx_meq, sx_lem, sx_mle, sx_ltm, sx_mlt, sx_addm, sx_shl, sx_bit1, sx_bit0, fa_or, uA_s, uA_n, sA_s, sA_n, sx_uA, sx_uAn, sx_sAs, pk_us, pk_un, if_true, if_false, if_pos, if_neg, ob_some, Nat.add_zero, Nat.add_sub_cancel, eq_self, ne_eq, not_true, not_false_iff, false_or, true_or, or_false, or_true, false_and, true_and, and_false, and_true, v.n]
    refine RT.done hQ ?_
    rw [e]
    refine congrArg nI (msk_cong (fun p hp => ?_))
    rw [decide_eq_true (w.1.2.1 p hp).1, Bool.and_true]
  · intro n i l2 hi e hk
    show RT (f_X12_aloneOnes_L4 (nI b) M (n + 1) l2 (nI i)) _
    have s0 := sz_le V i
    unfold f_X12_aloneOnes_L4
    by_cases q : sz V i = 1
    · simp (disch := omega) only [bnd_nr, li_0, li_1, li_2, li_3, li_4, li_5, li_6, li_7, li_8, li_9, li_10, li_11, li_12, li_13, li_14, li_15, li_16, li_17, li_18, li_19, li_20, li_21, li_22, li_23, li_24, li_25, li_26, li_27, li_28, li_29, li_30, li_31, li_32, li_33, li_34, li_35, li_36, li_37, li_38, li_39, li_40, li_41, li_42, li_43, li_44, li_45, li_46, li_47, li_48, li_49, li_50, li_51, li_52, li_53, li_54, li_55, li_56, li_57, li_58, li_59, li_60, li_61, li_62, li_63, li_64, li_74, li_86, li_87, li_88, li_96, li_97, li_98, li_99, li_100, li_101, li_102, li_103, li_104, li_105, li_107, li_108, li_109, li_110, li_111, li_112, li_114, li_115, li_116, li_117, li_118, li_121, li_122, li_124, li_136, li_148, li_160, li_680, li_200, li_201, li_255, li_700, li_950, li_1000, li_1400, li_3440, li_4096, li_9999, li_10000, li_20000, li_20033, li_20038, li_20124, li_32767, li_65535, li_1103515245, li_12345, li_m, sx_grd, sx_clamp, nI_add, sx_sub, pk_mul, sx_le, sx_lt, sx_eq, sx_eqm, sx_meq, sx_lem, sx_mle, sx_ltm, sx_mlt, sx_addm, sx_shl, sx_bit1, sx_bit0, fa_or, uA_s, uA_n, sA_s, sA_n, sx_uA, sx_uAn, sx_sAs, pk_us, pk_un, if_true, if_false, if_pos, if_neg, ob_some, Nat.add_zero, Nat.add_sub_cancel, eq_self, ne_eq, not_true, not_false_iff, false_or, true_or, or_false, or_true, false_and, true_and, and_false, and_true, v.n, m_sizeOf v w.1 hb (show i < 2147483648 by omega), m_inHouse v w.1 hb (show i < 2147483648 by omega), e, q]
      refine hk _ (congrArg nI ?_)
      have l1 := msk_lt (fun p => decide (sz V (ho V p) = 1) && decide (ho V p < i)) (vn V)
      have l2 := msk_lt (fun p => decide (ho V p = i)) (vn V)
      refine bit_ext (n := vn V) (Nat.or_lt_two_pow l1 l2) (msk_lt _ _) (fun k hk9 => ?_)
      unfold dw
      rw [Nat.testBit_or, msk_bit, msk_bit, msk_bit, decide_eq_true hk9, Bool.true_and, Bool.true_and, Bool.true_and]
      by_cases z : ho V k = i
      · rw [z, q]; simp
      · rw [decide_eq_false z, Bool.or_false]
        congr 1
        exact decide_eq_decide.mpr (by omega)
    · simp (disch := omega) only [bnd_nr, li_0, li_1, li_2, li_3, li_4, li_5, li_6, li_7, li_8, li_9, li_10, li_11, li_12, li_13, li_14, li_15, li_16, li_17, li_18, li_19, li_20, li_21, li_22, li_23, li_24, li_25, li_26, li_27, li_28, li_29, li_30, li_31, li_32, li_33, li_34, li_35, li_36, li_37, li_38, li_39, li_40, li_41, li_42, li_43, li_44, li_45, li_46, li_47, li_48, li_49, li_50, li_51, li_52, li_53, li_54, li_55, li_56, li_57, li_58, li_59, li_60, li_61, li_62, li_63, li_64, li_74, li_86, li_87, li_88, li_96, li_97, li_98, li_99, li_100, li_101, li_102, li_103, li_104, li_105, li_107, li_108, li_109, li_110, li_111, li_112, li_114, li_115, li_116, li_117, li_118, li_121, li_122, li_124, li_136, li_148, li_160, li_680, li_200, li_201, li_255, li_700, li_950, li_1000, li_1400, li_3440, li_4096, li_9999, li_10000, li_20000, li_20033, li_20038, li_20124, li_32767, li_65535, li_1103515245, li_12345, li_m, sx_grd, sx_clamp, nI_add, sx_sub, pk_mul, sx_le, sx_lt, sx_eq, sx_eqm, sx_meq, sx_lem, sx_mle, sx_ltm, sx_mlt, sx_addm, sx_shl, sx_bit1, sx_bit0, fa_or, uA_s, uA_n, sA_s, sA_n, sx_uA, sx_uAn, sx_sAs, pk_us, pk_un, if_true, if_false, if_pos, if_neg, ob_some, Nat.add_zero, Nat.add_sub_cancel, eq_self, ne_eq, not_true, not_false_iff, false_or, true_or, or_false, or_true, false_and, true_and, and_false, and_true, v.n, m_sizeOf v w.1 hb (show i < 2147483648 by omega), e, if_neg q]
      refine hk _ ?_
      rw [Nat.or_zero]
      refine congrArg nI (msk_cong (fun k hk9 => ?_))
      by_cases z : ho V k = i
      · rw [z, decide_eq_false q]; rfl
      · congr 1
        exact decide_eq_decide.mpr (by omega)
