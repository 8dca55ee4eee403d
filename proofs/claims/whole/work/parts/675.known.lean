/-! who has known whom -/
def knC (E : RE) (V0 : VT) (i p q : Nat) : Bool := decide (0 < fb_ct (fun t => inB (It E V0 t) p q) i)
def knM (E : RE) (V0 : VT) (i p : Nat) : Nat := msk (knC E V0 i p) (vn V0)
def liM (E : RE) (V0 : VT) (i p : Nat) : Nat := msk (rmF (knC E V0 i p) p) (vn V0)
theorem knC_iff {E : RE} {V0 : VT} {i p q : Nat} : knC E V0 i p q = true ↔ ∃ t, t < i ∧ ho (It E V0 t) p = ho (It E V0 t) q := by
  unfold knC
  rw [decide_eq_true_eq, fb_ct_pos]
  unfold inB
  simp only [decide_eq_true_eq]
theorem knC_succ {E : RE} {V0 : VT} {i p q : Nat} : knC E V0 (i + 1) p q = (knC E V0 i p q || inB (It E V0 i) p q) := bool_eq (by
  rw [Bool.or_eq_true, knC_iff, knC_iff]
  unfold inB
  rw [decide_eq_true_eq]
  constructor
  · rintro ⟨t, t1, t2⟩
    by_cases ti : t = i
    · subst ti; exact Or.inr t2
    · exact Or.inl ⟨t, by omega, t2⟩
  · rintro (⟨t, t1, t2⟩ | z)
    · exact ⟨t, by omega, t2⟩
    · exact ⟨i, by omega, z⟩)
theorem knC_symm {E : RE} {V0 : VT} {i p q : Nat} : knC E V0 i p q = knC E V0 i q p := bool_eq (by
  rw [knC_iff, knC_iff]
  constructor
  · rintro ⟨t, t1, t2⟩; exact ⟨t, t1, t2.symm⟩
  · rintro ⟨t, t1, t2⟩; exact ⟨t, t1, t2.symm⟩)
theorem knM_lt {E : RE} {V0 : VT} {i p : Nat} : knM E V0 i p < 2 ^ vn V0 := msk_lt _ _
theorem liM_lt {E : RE} {V0 : VT} {i p : Nat} : liM E V0 i p < 2 ^ vn V0 := msk_lt _ _
theorem dw_bit {V : VT} {h q : Nat} (hq : q < vn V) : (dw V h).testBit q = decide (ho V q = h) := by
  unfold dw; rw [msk_bit, decide_eq_true hq, Bool.true_and]
theorem knM_succ {E : RE} {V0 : VT} {i p : Nat} (e : vn (It E V0 i) = vn V0) : knM E V0 i p ||| dw (It E V0 i) (ho (It E V0 i) p) = knM E V0 (i + 1) p := by
  have l := dw_lt (It E V0 i) (ho (It E V0 i) p)
  rw [e] at l
  refine bit_ext (n := vn V0) (Nat.or_lt_two_pow knM_lt l) knM_lt (fun q hq => ?_)
  unfold knM
  rw [Nat.testBit_or, msk_bit, msk_bit, decide_eq_true hq, Bool.true_and, Bool.true_and, dw_bit (by omega), knC_succ]
  congr 1
  unfold inB
  exact decide_eq_decide.mpr ⟨fun z => z.symm, fun z => z.symm⟩
theorem liM_succ {E : RE} {V0 : VT} {i p : Nat} (h12 : vn V0 ≤ 12) (e : vn (It E V0 i) = vn V0) : liM E V0 i p ||| cpN (It E V0 i) p = liM E V0 (i + 1) p := by
  have l := cpN_lt (V := It E V0 i) (p := p)
  rw [e] at l
  refine bit_ext (n := vn V0) (Nat.or_lt_two_pow liM_lt l) liM_lt (fun q hq => ?_)
  unfold liM cpN
  rw [Nat.testBit_or, msk_bit, msk_bit, decide_eq_true hq, Bool.true_and, Bool.true_and, anN_rm (by omega)]
  unfold rmF
  rw [dw_bit (by omega), knC_succ]
  have e9 : decide (ho (It E V0 i) q = ho (It E V0 i) p) = inB (It E V0 i) p q := by
    unfold inB
    exact decide_eq_decide.mpr ⟨fun z => z.symm, fun z => z.symm⟩
  rw [e9]
  cases knC E V0 i p q <;> cases inB (It E V0 i) p q <;> cases decide (q = p) <;> rfl
theorem liM_kn {E : RE} {V0 : VT} {i p : Nat} (h12 : vn V0 ≤ 12) : anN (knM E V0 i p) (2 ^ p) = liM E V0 i p := by
  refine bit_ext (n := vn V0) (anN_lt knM_lt) liM_lt (fun q hq => ?_)
  rw [anN_rm (by omega)]
  unfold liM rmF knM
  rw [msk_bit, msk_bit, decide_eq_true hq, Bool.true_and, Bool.true_and]
theorem kn_card {E : RE} {V0 : VT} {i p : Nat} (h12 : vn V0 ≤ 12) (hp : p < vn V0) (hi : 0 < i) : pcn (knM E V0 i p) = pcn (liM E V0 i p) + 1 ∧ pcn (knM E V0 i p) ≤ vn V0 := by
  have a : pcn (knM E V0 i p) = fb_ct (knC E V0 i p) (vn V0) := msk_cnt (by omega)
  have b : pcn (liM E V0 i p) = fb_ct (rmF (knC E V0 i p) p) (vn V0) := msk_cnt (by omega)
  have c := cf_rm (V := V0) (f := knC E V0 i p) hp (knC_iff.mpr ⟨0, hi, rfl⟩)
  unfold cf at c
  have d := fb_ct_le (knC E V0 i p) (vn V0)
  omega
def akB (E : RE) (V0 : VT) (i : Nat) : Bool := decide (fb_ct (fun p => decide (knM E V0 i p = 2 ^ vn V0 - 1)) (vn V0) = vn V0)
theorem akB_iff {E : RE} {V0 : VT} {i : Nat} : akB E V0 i = true ↔ ∀ p, p < vn V0 → knM E V0 i p = 2 ^ vn V0 - 1 := by
  unfold akB
  rw [decide_eq_true_eq, fb_ct_all]
  simp only [decide_eq_true_eq]
theorem kn_full {E : RE} {V0 : VT} {i p : Nat} (h12 : vn V0 ≤ 12) : knM E V0 i p = 2 ^ vn V0 - 1 ↔ ∀ q, q < vn V0 → knC E V0 i p q = true := by
  constructor
  · intro h q hq
    have := congrArg (fun m => m.testBit q) h
    simp only [full_bits _ q hq] at this
    unfold knM at this
    rw [msk_bit, decide_eq_true hq, Bool.true_and] at this
    exact this
  · intro h
    refine bit_ext (n := vn V0) knM_lt (by have := Nat.two_pow_pos (vn V0); omega) (fun q hq => ?_)
    unfold knM
    rw [msk_bit, decide_eq_true hq, Bool.true_and, full_bits _ q hq]; exact h q hq
def uS (E : RE) (V0 : VT) (i k : Nat) : Nat := fb_sm (fun p => vn V0 - 1 - pcn (liM E V0 i p)) k
theorem uS_0 {E : RE} {V0 : VT} {i : Nat} (h12 : vn V0 ≤ 12) (hi : 0 < i) : uS E V0 i (vn V0) / 2 = 0 ↔ akB E V0 i = true := by
  have one : ∀ p, p < vn V0 → (knM E V0 i p = 2 ^ vn V0 - 1 ↔ vn V0 - 1 - pcn (liM E V0 i p) = 0) := by
    intro p hp
    have c := kn_card (E := E) (i := i) h12 hp hi
    have a : pcn (knM E V0 i p) = fb_ct (knC E V0 i p) (vn V0) := msk_cnt (by omega)
    rw [kn_full h12]
    constructor
    · intro h
      have := fb_ct_all.mpr h
      omega
    · intro h
      exact fb_ct_all.mp (by omega)
  constructor
  · intro h
    refine akB_iff.mpr (fun p hp => Classical.byContradiction (fun no => ?_))
    have n1 : ∃ q, q < vn V0 ∧ knC E V0 i p q = false := by
      refine Classical.byContradiction (fun z => no ((kn_full h12).mpr (fun q hq => ?_)))
      cases y : knC E V0 i p q
      · exact absurd ⟨q, hq, y⟩ z
      · rfl
    obtain ⟨q, q1, q2⟩ := n1
    have pq : p ≠ q := fun z => by
      rw [z, knC_iff.mpr ⟨0, hi, rfl⟩] at q2; cases q2
    have a1 : 1 ≤ vn V0 - 1 - pcn (liM E V0 i p) := by
      rcases Nat.eq_zero_or_pos (vn V0 - 1 - pcn (liM E V0 i p)) with z | z
      · exact absurd ((one p hp).mpr z) no
      · exact z
    have a2 : 1 ≤ vn V0 - 1 - pcn (liM E V0 i q) := by
      rcases Nat.eq_zero_or_pos (vn V0 - 1 - pcn (liM E V0 i q)) with z | z
      · have := (kn_full h12).mp ((one q q1).mpr z) p hp
        rw [knC_symm, q2] at this; cases this
      · exact z
    have l := fb_sm_le (f := fun k => (if k = p then 1 else 0) + (if k = q then 1 else 0)) (g := fun k => vn V0 - 1 - pcn (liM E V0 i k)) (n := vn V0) (fun k hk => by
      show (if k = p then 1 else 0) + (if k = q then 1 else 0) ≤ vn V0 - 1 - pcn (liM E V0 i k)
      by_cases kp : k = p
      · subst kp; rw [if_pos rfl, if_neg pq]; omega
      · by_cases kq : k = q
        · subst kq; rw [if_neg kp, if_pos rfl]; omega
        · rw [if_neg kp, if_neg kq]; omega)
    rw [fb_sm_add, sm_one, sm_one, if_pos hp, if_pos q1] at l
    unfold uS at h
    omega
  · intro h
    have z : uS E V0 i (vn V0) = 0 := by
      unfold uS
      rw [fb_sm_cong (g := fun _ => 0) (fun p hp => (one p hp).mp (akB_iff.mp h p hp)), fb_sm_const]
      omega
    rw [z]
/-- the class's Known holds what i rows say -/
def KC (K : Ob) (E : RE) (V0 : VT) (i : Nat) : Prop := ∀ p, p < vn V0 → K.2 1 p = nI (knM E V0 i p)
theorem c_clear {K : Ob} {E : RE} {V0 : VT} (h12 : vn V0 ≤ 12) : RT (f_X4_clear K) (fun r => KC r E V0 0) := by
  refine RT.cps (fun Q hQ => ?_)
  unfold f_X4_clear
  rw [j_fill _ (by omega), ob_some, bnd_nr]
  refine RT.done hQ (fun p hp => ?_)
  simp only [sA_s]
  rw [fa_fill_in (by omega)]
  show nI 0 = _
  congr 1
  exact (msk_zero.mpr (fb_ct_zero.mpr (fun q _ => rfl))).symm
theorem c_live {K v : Ob} {V : VT} (c : VC v V) (w : WFP V) : RT (f_X4_liveTogether K v) (fun r => ∀ p, p < vn V → r.2 1 p = K.2 1 p ||| nI (dw V (ho V p))) := by
  have b0 := w.1
  have p2 := pw12 b0.1
  refine RT.cps (fun Q hQ => ?_)
  unfold f_X4_liveTogether
  rw [j_fill _ (by omega), ob_some, bnd_nr]
  refine RT.loop0 (fun n i (z : Ob) => f_X4_liveTogether_L10 v n (nI i) z) (vn V) (fun i z => z.2 1 = K.2 1 ∧ ∀ h, h < 13 → z.2 2 h = nI (msk (fun p => decide (ho V p = h)) i)) Q _ (by omega) ⟨by simp (disch := omega) only [uA_s, uA_n, sA_s, sA_n, pk_us, pk_un], fun h hh => by simp (disch := omega) only [uA_s, uA_n, sA_s, sA_n, pk_us, pk_un]; rw [fa_fill_in hh]; rfl⟩ ?_ ?_
  · intro n z ⟨z1, z2⟩
    show RT (f_X4_liveTogether_L10 v (n + 1) (nI (vn V)) z) _
    unfold f_X4_liveTogether_L10
    simp (disch := omega) only [bnd_nr, li_0, li_1, li_2, li_3, li_4, li_5, li_6, li_7, li_8, li_9, li_10, li_11, li_12, li_13, li_14, li_15, li_16, li_17, li_18, li_19, li_20, li_21, li_22, li_23, li_24, li_25, li_26, li_27, li_28, li_29, li_30, li_31, li_32, li_33, li_34, li_35, li_36, li_37, li_38, li_39, li_40, li_41, li_42, li_43, li_44, li_45, li_46, li_47, li_48, li_49, li_50, li_51, li_52, li_53, li_54, li_55, li_56, li_57, li_58, li_59, li_60, li_61, li_62, li_63, li_64, li_74, li_86, li_87, li_88, li_96, li_97, li_98, li_99, li_100, li_101, li_102, li_103, li_104, li_105, li_107, li_108, li_109, li_110, li_111, li_112, li_114, li_115, li_116, li_117, li_118, li_121, li_122, li_124, li_136, li_148, li_160, li_680, li_200, li_201, li_255, li_700, li_950, li_1000, li_1400, li_3440, li_4096, li_9999, li_10000, li_20000, li_20033, li_20038, li_20124, li_32767, li_65535, li_1103515245, li_12345, li_m, sx_grd, sx_clamp, nI_add, sx_sub, pk_mul, sx_le, sx_lt, sx_eq, sx_eqm, sx_meq, sx_lem, sx_mle, sx_ltm, sx_mlt, sx_addm, sx_shl, sx_bit1, sx_bit0, fa_or, uA_s, uA_n, sA_s, sA_n, sx_uA, sx_uAn, sx_sAs, pk_us, pk_un, if_true, if_false, if_pos, if_neg, ob_some, Nat.add_zero, Nat.add_sub_cancel, eq_self, ne_eq, not_true, not_false_iff, false_or, true_or, or_false, or_true, false_and, true_and, and_false, and_true, c.1.1]
    refine RT.loop0 (fun n i (y : Ob) => f_X4_liveTogether_L43 v n (nI i) y) (vn V) (fun i y => y.2 2 = z.2 2 ∧ ∀ p, p < vn V → y.2 1 p = if p < i then K.2 1 p ||| nI (dw V (ho V p)) else K.2 1 p) Q z (by omega) ⟨rfl, fun p hp => by rw [z1, if_neg (by omega)]⟩ ?_ ?_
    · intro n y ⟨y1, y2⟩
      show RT (f_X4_liveTogether_L43 v (n + 1) (nI (vn V)) y) _
      unfold f_X4_liveTogether_L43
      simp (disch := omega) only [bnd_nr, li_0, li_1, li_2, li_3, li_4, li_5, li_6, li_7, li_8, li_9, li_10, li_11, li_12, li_13, li_14, li_15, li_16, li_17, li_18, li_19, li_20, li_21, li_22, li_23, li_24, li_25, li_26, li_27, li_28, li_29, li_30, li_31, li_32, li_33, li_34, li_35, li_36, li_37, li_38, li_39, li_40, li_41, li_42, li_43, li_44, li_45, li_46, li_47, li_48, li_49, li_50, li_51, li_52, li_53, li_54, li_55, li_56, li_57, li_58, li_59, li_60, li_61, li_62, li_63, li_64, li_74, li_86, li_87, li_88, li_96, li_97, li_98, li_99, li_100, li_101, li_102, li_103, li_104, li_105, li_107, li_108, li_109, li_110, li_111, li_112, li_114, li_115, li_116, li_117, li_118, li_121, li_122, li_124, li_136, li_148, li_160, li_680, li_200, li_201, li_255, li_700, li_950, li_1000, li_1400, li_3440, li_4096, li_9999, li_10000, li_20000, li_20033, li_20038, li_20124, li_32767, li_65535, li_1103515245, li_12345, li_m, sx_grd, sx_clamp, nI_add, sx_sub, pk_mul, sx_le, sx_lt, sx_eq, sx_eqm, sx_meq, sx_lem, sx_mle, sx_ltm, sx_mlt, sx_addm, sx_shl, sx_bit1, sx_bit0, fa_or, uA_s, uA_n, sA_s, sA_n, sx_uA, sx_uAn, sx_sAs, pk_us, pk_un, if_true, if_false, if_pos, if_neg, ob_some, Nat.add_zero, Nat.add_sub_cancel, eq_self, ne_eq, not_true, not_false_iff, false_or, true_or, or_false, or_true, false_and, true_and, and_false, and_true, c.1.1]
      refine RT.done hQ (fun p hp => ?_)
      rw [y2 p hp, if_pos hp]
    · intro n i y hi ⟨y1, y2⟩ hk
      show RT (f_X4_liveTogether_L43 v (n + 1) (nI i) y) _
      have b1 := w.2.1 i hi
      have yi := y2 i hi
      rw [if_neg (by omega)] at yi
      unfold f_X4_liveTogether_L43
      simp (disch := omega) only [bnd_nr, li_0, li_1, li_2, li_3, li_4, li_5, li_6, li_7, li_8, li_9, li_10, li_11, li_12, li_13, li_14, li_15, li_16, li_17, li_18, li_19, li_20, li_21, li_22, li_23, li_24, li_25, li_26, li_27, li_28, li_29, li_30, li_31, li_32, li_33, li_34, li_35, li_36, li_37, li_38, li_39, li_40, li_41, li_42, li_43, li_44, li_45, li_46, li_47, li_48, li_49, li_50, li_51, li_52, li_53, li_54, li_55, li_56, li_57, li_58, li_59, li_60, li_61, li_62, li_63, li_64, li_74, li_86, li_87, li_88, li_96, li_97, li_98, li_99, li_100, li_101, li_102, li_103, li_104, li_105, li_107, li_108, li_109, li_110, li_111, li_112, li_114, li_115, li_116, li_117, li_118, li_121, li_122, li_124, li_136, li_148, li_160, li_680, li_200, li_201, li_255, li_700, li_950, li_1000, li_1400, li_3440, li_4096, li_9999, li_10000, li_20000, li_20033, li_20038, li_20124, li_32767, li_65535, li_1103515245, li_12345, li_m, sx_grd, sx_clamp, nI_add, sx_sub, pk_mul, sx_le, sx_lt, sx_eq, sx_eqm, sx_meq, sx_lem, sx_mle, sx_ltm, sx_mlt, sx_addm, sx_shl, sx_bit1, sx_bit0, fa_or, uA_s, uA_n, sA_s, sA_n, sx_uA, sx_uAn, sx_sAs, pk_us, pk_un, if_true, if_false, if_pos, if_neg, ob_some, Nat.add_zero, Nat.add_sub_cancel, eq_self, ne_eq, not_true, not_false_iff, false_or, true_or, or_false, or_true, false_and, true_and, and_false, and_true, c.1.1, c.h i hi, y1, z2 (ho V i) (by omega), yi]
      refine hk _ ⟨by simp (disch := omega) only [uA_s, uA_n, sA_s, sA_n, pk_us, pk_un]; exact y1, fun p hp => ?_⟩
      simp (disch := omega) only [uA_s]
      by_cases pi : p = i
      · subst pi; rw [pk_us, if_pos (by omega)]; rfl
      · rw [pk_un pi, y2 p hp]
        by_cases pl9 : p < i
        · rw [if_pos pl9, if_pos (by omega)]
        · rw [if_neg pl9, if_neg (by omega)]
  · intro n i z hi ⟨z1, z2⟩ hk
    show RT (f_X4_liveTogether_L10 v (n + 1) (nI i) z) _
    have b1 := w.2.1 i hi
    unfold f_X4_liveTogether_L10
    simp (disch := omega) only [bnd_nr, li_0, li_1, li_2, li_3, li_4, li_5, li_6, li_7, li_8, li_9, li_10, li_11, li_12, li_13, li_14, li_15, li_16, li_17, li_18, li_19, li_20, li_21, li_22, li_23, li_24, li_25, li_26, li_27, li_28, li_29, li_30, li_31, li_32, li_33, li_34, li_35, li_36, li_37, li_38, li_39, li_40, li_41, li_42, li_43, li_44, li_45, li_46, li_47, li_48, li_49, li_50, li_51, li_52, li_53, li_54, li_55, li_56, li_57, li_58, li_59, li_60, li_61, li_62, li_63, li_64, li_74, li_86, li_87, li_88, li_96, li_97, li_98, li_99, li_100, li_101, li_102, li_103, li_104, li_105, li_107, li_108, li_109, li_110, li_111, li_112, li_114, li_115, li_116, li_117, li_118, li_121, li_122, li_124, li_136, li_148, li_160, li_680, li_200, li_201, li_255, li_700, li_950, li_1000, li_1400, li_3440, li_4096, li_9999, li_10000, li_20000, li_20033, li_20038, li_20124, li_32767, li_65535, li_1103515245, li_12345, li_m, sx_grd, sx_clamp, nI_add, sx_sub, pk_mul, sx_le, sx_lt, sx_eq, sx_eqm, sx_meq, sx_lem, sx_mle, sx_ltm, sx_mlt, sx_addm, sx_shl, sx_bit1, sx_bit0, fa_or, uA_s, uA_n, sA_s, sA_n, sx_uA, sx_uAn, sx_sAs, pk_us, pk_un, if_true, if_false, if_pos, if_neg, ob_some, Nat.add_zero, Nat.add_sub_cancel, eq_self, ne_eq, not_true, not_false_iff, false_or, true_or, or_false, or_true, false_and, true_and, and_false, and_true, c.1.1, c.h i hi, z2 (ho V i) (by omega)]
    refine hk _ ⟨by simp (disch := omega) only [uA_s, uA_n, sA_s, sA_n, pk_us, pk_un]; exact z1, fun h hh => ?_⟩
    simp (disch := omega) only [uA_s]
    by_cases q : h = ho V i
    · subst q; rw [pk_us, msk_step (decide_eq_true rfl)]
    · rw [pk_un q, msk_stay (decide_eq_false (fun z => q z.symm))]; exact z2 h hh
theorem c_liveK {K v : Ob} {E : RE} {V0 : VT} {i : Nat} (kc : KC K E V0 i) (c : VC v (It E V0 i)) (w : WFP (It E V0 i)) (e : vn (It E V0 i) = vn V0) : RT (f_X4_liveTogether K v) (fun r => KC r E V0 (i + 1)) := (c_live c w).weak (fun r hr p hp => by
  rw [hr p (by omega), kc p hp, fa_or, knM_succ e])
theorem c_isAll {K : Ob} {E : RE} {V0 : VT} {i : Nat} (h12 : vn V0 ≤ 12) (kc : KC K E V0 i) : f_X4_isAll K (nI (vn V0)) = some (nI (if akB E V0 i then 1 else 0)) := by
  have p2 := pw12 h12
  have p1 := Nat.two_pow_pos (vn V0)
  refine RT.eq ?_
  refine RT.cps (fun Q hQ => ?_)
  unfold f_X4_isAll
  refine RT.loop0 (fun n p (_ : Unit) => f_X4_isAll_L2 (nI (vn V0)) K n (nI p)) (vn V0) (fun p _ => ∀ q, q < p → knM E V0 i q = 2 ^ vn V0 - 1) Q () (by omega) (fun q hq => absurd hq (Nat.not_lt_zero _)) ?_ ?_
  · intro n _ h
    show RT (f_X4_isAll_L2 (nI (vn V0)) K (n + 1) (nI (vn V0))) _
    unfold f_X4_isAll_L2
    simp (disch := omega) only [bnd_nr, li_0, li_1, li_2, li_3, li_4, li_5, li_6, li_7, li_8, li_9, li_10, li_11, li_12, li_13, li_14, li_15, li_16, li_17, li_18, li_19, li_20, li_21, li_22, li_23, li_24, li_25, li_26, li_27, li_28, li_29, li_30, li_31, li_32, li_33, li_34, li_35, li_36, li_37, li_38, li_39, li_40, li_41, li_42, li_43, li_44, li_45, li_46, li_47, li_48, li_49, li_50, li_51, li_52, li_53, li_54, li_55, li_56, li_57, li_58, li_59, li_60, li_61, li_62, li_63, li_64, li_74, li_86, li_87, li_88, li_96, li_97, li_98, li_99, li_100, li_101, li_102, li_103, li_104, li_105, li_107, li_108, li_109, li_110, li_111, li_112, li_114, li_115, li_116, li_117, li_118, li_121, li_122, li_124, li_136, li_148, li_160, li_680, li_200, li_201, li_255, li_700, li_950, li_1000, li_1400, li_3440, li_4096, li_9999, li_10000, li_20000, li_20033, li_20038, li_20124, li_32767, li_65535, li_1103515245, li_12345, li_m, sx_grd, sx_clamp, nI_add, sx_sub, pk_mul, sx_le, sx_lt, sx_eq, sx_eqm, sx_meq, sx_lem, sx_mle, sx_ltm, sx_mlt, sx_addm, sx_shl, sx_bit1, sx_bit0, fa_or, uA_s, uA_n, sA_s, sA_n, sx_uA, sx_uAn, sx_sAs, pk_us, pk_un, if_true, if_false, if_pos, if_neg, ob_some, Nat.add_zero, Nat.add_sub_cancel, eq_self, ne_eq, not_true, not_false_iff, false_or, true_or, or_false, or_true, false_and, true_and, and_false, and_true]
    exact RT.done hQ (by rw [akB_iff.mpr h]; rfl)
  · intro n p _ hp h hk
    show RT (f_X4_isAll_L2 (nI (vn V0)) K (n + 1) (nI p)) _
    have l := knM_lt (E := E) (V0 := V0) (i := i) (p := p)
    unfold f_X4_isAll_L2
    simp (disch := omega) only [bnd_nr, li_0, li_1, li_2, li_3, li_4, li_5, li_6, li_7, li_8, li_9, li_10, li_11, li_12, li_13, li_14, li_15, li_16, li_17, li_18, li_19, li_20, li_21, li_22, li_23, li_24, li_25, li_26, li_27, li_28, li_29, li_30, li_31, li_32, li_33, li_34, li_35, li_36, li_37, li_38, li_39, li_40, li_41, li_42, li_43, li_44, li_45, li_46, li_47, li_48, li_49, li_50, li_51, li_52, li_53, li_54, li_55, li_56, li_57, li_58, li_59, li_60, li_61, li_62, li_63, li_64, li_74, li_86, li_87, li_88, li_96, li_97, li_98, li_99, li_100, li_101, li_102, li_103, li_104, li_105, li_107, li_108, li_109, li_110, li_111, li_112, li_114, li_115, li_116, li_117, li_118, li_121, li_122, li_124, li_136, li_148, li_160, li_680, li_200, li_201, li_255, li_700, li_950, li_1000, li_1400, li_3440, li_4096, li_9999, li_10000, li_20000, li_20033, li_20038, li_20124, li_32767, li_65535, li_1103515245, li_12345, li_m, sx_grd, sx_clamp, nI_add, sx_sub, pk_mul, sx_le, sx_lt, sx_eq, sx_eqm, sx_meq, sx_lem, sx_mle, sx_ltm, sx_mlt, sx_addm, sx_shl, sx_bit1, sx_bit0, fa_or, uA_s, uA_n, sA_s, sA_n, sx_uA, sx_uAn, sx_sAs, pk_us, pk_un, if_true, if_false, if_pos, if_neg, ob_some, Nat.add_zero, Nat.add_sub_cancel, eq_self, ne_eq, not_true, not_false_iff, false_or, true_or, or_false, or_true, false_and, true_and, and_false, and_true, kc p hp]
    refine RT.ite (fun d => hk () (fun q hq => ?_)) (fun d => RT.done hQ ?_)
    · by_cases qp : q = p
      · subst qp; exact d
      · exact h q (by omega)
    · rw [if_neg (fun z => d (akB_iff.mp z p hp))]
theorem c_kof {K : Ob} {E : RE} {V0 : VT} {i p : Nat} (h12 : vn V0 ≤ 12) (kc : KC K E V0 i) (hp : p < vn V0) : f_X4_of K (nI p) = some (nI (liM E V0 i p)) := by
  have p2 := pw12 h12
  have l := knM_lt (E := E) (V0 := V0) (i := i) (p := p)
  unfold f_X4_of
  simp (disch := omega) only [bnd_nr, li_0, li_1, li_2, li_3, li_4, li_5, li_6, li_7, li_8, li_9, li_10, li_11, li_12, li_13, li_14, li_15, li_16, li_17, li_18, li_19, li_20, li_21, li_22, li_23, li_24, li_25, li_26, li_27, li_28, li_29, li_30, li_31, li_32, li_33, li_34, li_35, li_36, li_37, li_38, li_39, li_40, li_41, li_42, li_43, li_44, li_45, li_46, li_47, li_48, li_49, li_50, li_51, li_52, li_53, li_54, li_55, li_56, li_57, li_58, li_59, li_60, li_61, li_62, li_63, li_64, li_74, li_86, li_87, li_88, li_96, li_97, li_98, li_99, li_100, li_101, li_102, li_103, li_104, li_105, li_107, li_108, li_109, li_110, li_111, li_112, li_114, li_115, li_116, li_117, li_118, li_121, li_122, li_124, li_136, li_148, li_160, li_680, li_200, li_201, li_255, li_700, li_950, li_1000, li_1400, li_3440, li_4096, li_9999, li_10000, li_20000, li_20033, li_20038, li_20124, li_32767, li_65535, li_1103515245, li_12345, li_m, sx_grd, sx_clamp, nI_add, sx_sub, pk_mul, sx_le, sx_lt, sx_eq, sx_eqm, sx_meq, sx_lem, sx_mle, sx_ltm, sx_mlt, sx_addm, sx_shl, sx_bit1, sx_bit0, fa_or, uA_s, uA_n, sA_s, sA_n, sx_uA, sx_uAn, sx_sAs, pk_us, pk_un, if_true, if_false, if_pos, if_neg, ob_some, Nat.add_zero, Nat.add_sub_cancel, eq_self, ne_eq, not_true, not_false_iff, false_or, true_or, or_false, or_true, false_and, true_and, and_false, and_true, kc p hp, sx_andn]
  rw [liM_kn h12]
theorem uS_le {E : RE} {V0 : VT} {i k : Nat} (hk : k ≤ 12) (h12 : vn V0 ≤ 12) : uS E V0 i k ≤ 132 := by
  have := fb_sm_bound (f := fun p => vn V0 - 1 - pcn (liM E V0 i p)) (c := 11) (n := k) (fun p _ => by show vn V0 - 1 - pcn (liM E V0 i p) ≤ 11; omega)
  unfold uS
  omega
theorem c_strangers {K : Ob} {E : RE} {V0 : VT} {i : Nat} (h12 : vn V0 ≤ 12) (kc : KC K E V0 i) (hi : 0 < i) : f_X4_strangers K (nI (vn V0)) = some (nI (uS E V0 i (vn V0) / 2)) := by
  have p2 := pw12 h12
  refine RT.eq ?_
  refine RT.cps (fun Q hQ => ?_)
  unfold f_X4_strangers
  refine RT.loop0 (fun n p (l2 : Int32) => f_X4_strangers_L4 (nI (vn V0)) K n l2 (nI p)) (vn V0) (fun p l2 => l2 = nI (uS E V0 i p)) Q _ (by omega) rfl ?_ ?_
  · intro n l2 e
    show RT (f_X4_strangers_L4 (nI (vn V0)) K (n + 1) l2 (nI (vn V0))) _
    have u := uS_le (E := E) (V0 := V0) (i := i) (k := vn V0) h12 h12
    unfold f_X4_strangers_L4
    simp (disch := omega) only [bnd_nr, li_0, li_1, li_2, li_3, li_4, li_5, li_6, li_7, li_8, li_9, li_10, li_11, li_12, li_13, li_14, li_15, li_16, li_17, li_18, li_19, li_20, li_21, li_22, li_23, li_24, li_25, li_26, li_27, li_28, li_29, li_30, li_31, li_32, li_33, li_34, li_35, li_36, li_37, li_38, li_39, li_40, li_41, li_42, li_43, li_44, li_45, li_46, li_47, li_48, li_49, li_50, li_51, li_52, li_53, li_54, li_55, li_56, li_57, li_58, li_59, li_60, li_61, li_62, li_63, li_64, li_74, li_86, li_87, li_88, li_96, li_97, li_98, li_99, li_100, li_101, li_102, li_103, li_104, li_105, li_107, li_108, li_109, li_110, li_111, li_112, li_114, li_115, li_116, li_117, li_118, li_121, li_122, li_124, li_136, li_148, li_160, li_680, li_200, li_201, li_255, li_700, li_950, li_1000, li_1400, li_3440, li_4096, li_9999, li_10000, li_20000, li_20033, li_20038, li_20124, li_32767, li_65535, li_1103515245, li_12345, li_m, sx_grd, sx_clamp, nI_add, sx_sub, pk_mul, sx_le, sx_lt, sx_eq, sx_eqm, sx_meq, sx_lem, sx_mle, sx_ltm, sx_mlt, sx_addm, sx_shl, sx_bit1, sx_bit0, fa_or, uA_s, uA_n, sA_s, sA_n, sx_uA, sx_uAn, sx_sAs, pk_us, pk_un, if_true, if_false, if_pos, if_neg, ob_some, Nat.add_zero, Nat.add_sub_cancel, eq_self, ne_eq, not_true, not_false_iff, false_or, true_or, or_false, or_true, false_and, true_and, and_false, and_true, e, pk_div]
    exact RT.done hQ rfl
  · intro n p l2 hp e hk
    show RT (f_X4_strangers_L4 (nI (vn V0)) K (n + 1) l2 (nI p)) _
    have l := knM_lt (E := E) (V0 := V0) (i := i) (p := p)
    have c := kn_card (E := E) (i := i) h12 hp hi
    have jb : f_J6_bitCount_0f7a4 (nI (knM E V0 i p)) = some (nI (pcn (knM E V0 i p))) := j_bitCount (by omega)
    unfold f_X4_strangers_L4
    simp (disch := omega) only [bnd_nr, li_0, li_1, li_2, li_3, li_4, li_5, li_6, li_7, li_8, li_9, li_10, li_11, li_12, li_13, li_14, li_15, li_16, li_17, li_18, li_19, li_20, li_21, li_22, li_23, li_24, li_25, li_26, li_27, li_28, li_29, li_30, li_31, li_32, li_33, li_34, li_35, li_36, li_37, li_38, li_39, li_40, li_41, li_42, li_43, li_44, li_45, li_46, li_47, li_48, li_49, li_50, li_51, li_52, li_53, li_54, li_55, li_56, li_57, li_58, li_59, li_60, li_61, li_62, li_63, li_64, li_74, li_86, li_87, li_88, li_96, li_97, li_98, li_99, li_100, li_101, li_102, li_103, li_104, li_105, li_107, li_108, li_109, li_110, li_111, li_112, li_114, li_115, li_116, li_117, li_118, li_121, li_122, li_124, li_136, li_148, li_160, li_680, li_200, li_201, li_255, li_700, li_950, li_1000, li_1400, li_3440, li_4096, li_9999, li_10000, li_20000, li_20033, li_20038, li_20124, li_32767, li_65535, li_1103515245, li_12345, li_m, sx_grd, sx_clamp, nI_add, sx_sub, pk_mul, sx_le, sx_lt, sx_eq, sx_eqm, sx_meq, sx_lem, sx_mle, sx_ltm, sx_mlt, sx_addm, sx_shl, sx_bit1, sx_bit0, fa_or, uA_s, uA_n, sA_s, sA_n, sx_uA, sx_uAn, sx_sAs, pk_us, pk_un, if_true, if_false, if_pos, if_neg, ob_some, Nat.add_zero, Nat.add_sub_cancel, eq_self, ne_eq, not_true, not_false_iff, false_or, true_or, or_false, or_true, false_and, true_and, and_false, and_true, kc p hp, jb, e]
    refine hk _ ?_
    unfold uS
    rw [fb_sm_succ]
    congr 2
    omega
theorem c_knownWithin {E : RE} {V0 : VT} {cs : CS} {D Rp Rk K : Ob} {fs : FS} {m e : Nat} (c : WC E V0 m cs Rp Rk fs) (cw : CW E V0) (he : e ≤ 100) : RT (f_X1_knownWithin cs D Rp Rk K fs (max m (e + 1)) (nI e)) (fun q => KC q.2.2.2.2.1 E V0 (e + 1) ∧ WC E V0 (max m (e + 1)) q.1 q.2.2.1 q.2.2.2.1 q.2.2.2.2.2) := by
  refine RT.cps (fun Q hQ => ?_)
  have m1 : 1 ≤ m := by obtain ⟨⟨rd, c9⟩, _⟩ := c; exact c9.1.2.1
  have b0 := cw.1.1.1
  unfold f_X1_knownWithin
  refine RT.bind (c_clear (E := E) (V0 := V0) b0.1) (fun K0 hK0 => ?_)
  refine RT.loop0 (fun n i (y : CS × Ob × Ob × Ob × Ob × FS) => f_X1_knownWithin_L9 (max m (e + 1)) (nI e) n (nI i) y.1 y.2.1 y.2.2.1 y.2.2.2.1 y.2.2.2.2.1 y.2.2.2.2.2) (e + 1) (fun i y => KC y.2.2.2.2.1 E V0 i ∧ WC E V0 (max m i) y.1 y.2.2.1 y.2.2.2.1 y.2.2.2.2.2) Q (cs, D, Rp, Rk, K0, fs) (by omega) ⟨hK0, by rw [show max m 0 = m by omega]; exact c⟩ ?_ ?_
  · intro n y hy
    show RT (f_X1_knownWithin_L9 (max m (e + 1)) (nI e) (n + 1) (nI (e + 1)) y.1 y.2.1 y.2.2.1 y.2.2.2.1 y.2.2.2.2.1 y.2.2.2.2.2) _
    unfold f_X1_knownWithin_L9
    exact RT.itT (nI_lt (by omega) (by omega)) (RT.done hQ hy)
  · intro n i y hi ⟨y1, wc⟩ hk
    show RT (f_X1_knownWithin_L9 (max m (e + 1)) (nI e) (n + 1) (nI i) y.1 y.2.1 y.2.2.1 y.2.2.2.1 y.2.2.2.2.1 y.2.2.2.2.2) _
    obtain ⟨⟨rd, wc1⟩, wc2, wc3⟩ := wc
    have cnt : y.2.2.2.2.2.1 = max m i := wc1.1.1
    obtain ⟨wi, ei, ni⟩ := cw.it (E := E) (i := i) (by omega)
    unfold f_X1_knownWithin_L9
    refine RT.itF (nI_nlt (by omega) (by omega)) ?_
    rw [sx_clamp (by omega)]
    refine RT.bind (c_behind wc1 cw.1 cw.2.1 cw.2.2 wc2 wc3 (show i ≤ 200 by omega) (by rw [cnt])) (fun q ⟨q1, q2, q3, q4, q5, q6⟩ => ?_)
    have cnt2 : q.2.2.2.2.2.1 = max (max m i) (i + 1) := q2.1.1
    refine RT.grd (decide_eq_true ⟨by omega, by rw [cnt2, cnt], by omega⟩) (RT.grd (decide_eq_true (by omega)) ?_)
    rw [q1]
    refine RT.bind (c_liveK y1 q6 wi.1 ni) (fun q8 h8 => ?_)
    rw [bnd_nr, nI_1]
    exact hk (_, _, _, _, _, _) ⟨h8, ⟨⟨max rd i, by rw [show max m (i + 1) = max (max m i) (i + 1) by omega]; exact q2⟩, q3, q4⟩⟩
def AK (E : RE) (V0 : VT) : Nat := fa_first (fun i => akB E V0 (i + 1)) 101
theorem c_untilAllKnown {E : RE} {V0 : VT} {cs : CS} {D Rp Rk K : Ob} {fs : FS} {m B5 : Nat} (c : WC E V0 m cs Rp Rk fs) (cw : CW E V0) (hB : B5 = max m (min (AK E V0) 100 + 1)) : RT (f_X1_untilAllKnown cs D Rp Rk K fs B5) (fun q => q.1 = (if AK E V0 < 101 then nI (AK E V0) else mO) ∧ WC E V0 B5 q.2.1 q.2.2.2.1 q.2.2.2.2.1 q.2.2.2.2.2.2) := by
  refine RT.cps (fun Q hQ => ?_)
  have m1 : 1 ≤ m := by obtain ⟨⟨rd, c9⟩, _⟩ := c; exact c9.1.2.1
  have b0 := cw.1.1.1
  unfold f_X1_untilAllKnown
  refine RT.bind (c_clear (E := E) (V0 := V0) b0.1) (fun K0 hK0 => ?_)
  refine RT.loop0 (fun n i (y : CS × Ob × Ob × Ob × Ob × FS) => f_X1_untilAllKnown_L9 B5 n (nI i) y.1 y.2.1 y.2.2.1 y.2.2.2.1 y.2.2.2.2.1 y.2.2.2.2.2) 101 (fun i y => (∀ j, j < i → akB E V0 (j + 1) = false) ∧ KC y.2.2.2.2.1 E V0 i ∧ WC E V0 (max m i) y.1 y.2.2.1 y.2.2.2.1 y.2.2.2.2.2) Q (cs, D, Rp, Rk, K0, fs) (by omega) ⟨fun j hj => absurd hj (Nat.not_lt_zero _), hK0, by rw [show max m 0 = m by omega]; exact c⟩ ?_ ?_
  · intro n y ⟨no, y1, wc⟩
    show RT (f_X1_untilAllKnown_L9 B5 (n + 1) (nI 101) y.1 y.2.1 y.2.2.1 y.2.2.2.1 y.2.2.2.2.1 y.2.2.2.2.2) _
    have f : AK E V0 = 101 := first_none no
    rw [f] at hB
    unfold f_X1_untilAllKnown_L9
    refine RT.itT (show nI 100 < nI 101 from by decide) (RT.done hQ ⟨by rw [f]; rfl, ?_⟩)
    rw [show B5 = max m 101 by omega]; exact wc
  · intro n i y hi ⟨no, y1, wc⟩ hk
    show RT (f_X1_untilAllKnown_L9 B5 (n + 1) (nI i) y.1 y.2.1 y.2.2.1 y.2.2.2.1 y.2.2.2.2.1 y.2.2.2.2.2) _
    obtain ⟨⟨rd, wc1⟩, wc2, wc3⟩ := wc
    have ge : i ≤ AK E V0 := first_ge no (by omega)
    have cnt : y.2.2.2.2.2.1 = max m i := wc1.1.1
    obtain ⟨wi, ei, ni⟩ := cw.it (E := E) (i := i) (by omega)
    unfold f_X1_untilAllKnown_L9
    refine RT.itF (show ¬ nI 100 < nI i from nI_nlt (by omega) (by omega)) ?_
    rw [sx_clamp (by omega)]
    refine RT.bind (c_behind wc1 cw.1 cw.2.1 cw.2.2 wc2 wc3 (show i ≤ 200 by omega) (by rw [cnt])) (fun q ⟨q1, q2, q3, q4, q5, q6⟩ => ?_)
    have cnt2 : q.2.2.2.2.2.1 = max (max m i) (i + 1) := q2.1.1
    refine RT.grd (decide_eq_true ⟨by omega, by rw [cnt2, cnt], by omega⟩) (RT.grd (decide_eq_true (by omega)) ?_)
    rw [q1]
    refine RT.bind (c_liveK y1 q6 wi.1 ni) (fun q8 h8 => ?_)
    refine RT.grd (decide_eq_true (by omega)) ?_
    rw [(q2.2.2.2.1 0 (by omega)).1.1, show nI (vn (It E V0 0)) = nI (vn V0) from rfl, c_isAll b0.1 h8, ob_some]
    have wc' : WC E V0 (max m (i + 1)) q.2.1 q.2.2.2.1 q.2.2.2.2.1 q.2.2.2.2.2 := ⟨⟨max rd i, by rw [show max m (i + 1) = max (max m i) (i + 1) by omega]; exact q2⟩, q3, q4⟩
    cases eq : akB E V0 (i + 1)
    · refine RT.itT rfl ?_
      rw [bnd_nr, nI_1]
      refine hk (_, _, _, _, _, _) ⟨fun j hj => ?_, h8, wc'⟩
      by_cases ji : j = i
      · subst ji; exact eq
      · exact no j (by omega)
    · have f : AK E V0 = i := first_is hi eq no
      refine RT.itF (by decide) (RT.done hQ ⟨by rw [f, if_pos hi], ?_⟩)
      rw [show B5 = max m (i + 1) by omega]; exact wc'
/-! the reference's -/
def LI (M : MS) (E : RE) (V0 : VT) (i : Nat) : Prop := ∀ p, p < vn V0 → M.2.2 17 p = nI (liM E V0 i p)
def KF (M r : MS) : Prop := r.1 = M.1 ∧ r.2.1 = M.2.1 ∧ ∀ j, j ≠ 17 → r.2.2 j = M.2.2 j
theorem KF.qf {M r : MS} (h : KF M r) : QF M r := ⟨fun k _ => by rw [h.1], h.2.1, fun j _ h2 => by
  have := scA_ne h2
  exact h.2.2 j (by omega), fun i _ => by rw [h.2.2 10 (by omega)]⟩
theorem KF.vm {M r : MS} {b : Nat} {V : VT} (h : KF M r) (v : VM M b V) : VM r b V := VM_of (by rw [h.1]) (h.2.2 10 (by omega)) v
theorem m_knows {M : MS} {E : RE} {V0 : VT} {i : Nat} (v : VM M 86 (It E V0 i)) (w : WFP (It E V0 i)) (e : vn (It E V0 i) = vn V0) (l : LI M E V0 i) : RT (f_X12_knows M) (fun r => KF M r ∧ LI r E V0 (i + 1)) := by
  have b0 := w.1
  refine RT.cps (fun Q hQ => ?_)
  unfold f_X12_knows
  refine RT.loop0 (fun n p (z : MS) => f_X12_knows_L2 n (nI p) z) (vn V0) (fun p z => KF M z ∧ ∀ q, q < vn V0 → z.2.2 17 q = nI (if q < p then liM E V0 (i + 1) q else liM E V0 i q)) Q M (by omega) ⟨⟨rfl, rfl, fun _ _ => rfl⟩, fun q hq => by rw [if_neg (by omega)]; exact l q hq⟩ ?_ ?_
  · intro n z ⟨z1, z2⟩
    show RT (f_X12_knows_L2 (n + 1) (nI (vn V0)) z) _
    have vz := z1.vm v
    unfold f_X12_knows_L2
    refine RT.itT (by rw [vz.1, e]; exact nI_le (Nat.le_refl _) (by omega)) (RT.done hQ ⟨z1, fun q hq => ?_⟩)
    rw [z2 q hq, if_pos hq]
  · intro n p z hp ⟨z1, z2⟩ hk
    show RT (f_X12_knows_L2 (n + 1) (nI p) z) _
    have vz := z1.vm v
    have zp := z2 p hp
    rw [if_neg (by omega)] at zp
    unfold f_X12_knows_L2
    refine RT.itF (by rw [vz.1, e]; exact nI_ge hp (by omega)) ?_
    rw [sx_grd (by omega) (by omega), show (86 : Int32) = nI 86 from rfl, m_withOne vz w (by omega) (by omega), ob_some, sx_grd (by omega) (by omega), bnd_nr, bnd_nr, nI_1, sx_clamp (by omega), zp, fa_or, liM_succ (by omega) e]
    refine hk _ ⟨⟨z1.1, z1.2.1, fun j hj => by simp only [uA_n hj]; exact z1.2.2 j hj⟩, fun q hq => ?_⟩
    simp only [uA_s]
    by_cases qp : q = p
    · subst qp; rw [pk_us, if_pos (by omega)]
    · rw [pk_un qp, z2 q hq]
      by_cases ql : q < p
      · rw [if_pos ql, if_pos (by omega)]
      · rw [if_neg ql, if_neg (by omega)]
theorem m_unknown {M : MS} {E : RE} {V0 : VT} {i : Nat} (e : M.1 1 = nI (vn V0)) (h12 : vn V0 ≤ 12) (l : LI M E V0 i) (hi : 0 < i) : f_X12_unknown M = some (nI (uS E V0 i (vn V0) / 2)) := by
  have p2 := pw12 h12
  refine RT.eq ?_
  refine RT.cps (fun Q hQ => ?_)
  unfold f_X12_unknown
  refine RT.loop0 (fun n p (l1 : Int32) => f_X12_unknown_L4 M n l1 (nI p)) (vn V0) (fun p l1 => l1 = nI (uS E V0 i p)) Q _ (by omega) rfl ?_ ?_
  · intro n l1 e1
    show RT (f_X12_unknown_L4 M (n + 1) l1 (nI (vn V0))) _
    have u := uS_le (E := E) (V0 := V0) (i := i) (k := vn V0) h12 h12
    unfold f_X12_unknown_L4
    simp (disch := omega) only [bnd_nr, li_0, li_1, li_2, li_3, li_4, li_5, li_6, li_7, li_8, li_9, li_10, li_11, li_12, li_13, li_14, li_15, li_16, li_17, li_18, li_19, li_20, li_21, li_22, li_23, li_24, li_25, li_26, li_27, li_28, li_29, li_30, li_31, li_32, li_33, li_34, li_35, li_36, li_37, li_38, li_39, li_40, li_41, li_42, li_43, li_44, li_45, li_46, li_47, li_48, li_49, li_50, li_51, li_52, li_53, li_54, li_55, li_56, li_57, li_58, li_59, li_60, li_61, li_62, li_63, li_64, li_74, li_86, li_87, li_88, li_96, li_97, li_98, li_99, li_100, li_101, li_102, li_103, li_104, li_105, li_107, li_108, li_109, li_110, li_111, li_112, li_114, li_115, li_116, li_117, li_118, li_121, li_122, li_124, li_136, li_148, li_160, li_680, li_200, li_201, li_255, li_700, li_950, li_1000, li_1400, li_3440, li_4096, li_9999, li_10000, li_20000, li_20033, li_20038, li_20124, li_32767, li_65535, li_1103515245, li_12345, li_m, sx_grd, sx_clamp, nI_add, sx_sub, pk_mul, sx_le, sx_lt, sx_eq, sx_eqm, sx_meq, sx_lem, sx_mle, sx_ltm, sx_mlt, sx_addm, sx_shl, sx_bit1, sx_bit0, fa_or, uA_s, uA_n, sA_s, sA_n, sx_uA, sx_uAn, sx_sAs, pk_us, pk_un, if_true, if_false, if_pos, if_neg, ob_some, Nat.add_zero, Nat.add_sub_cancel, eq_self, ne_eq, not_true, not_false_iff, false_or, true_or, or_false, or_true, false_and, true_and, and_false, and_true, e, e1, pk_div]
    exact RT.done hQ rfl
  · intro n p l1 hp e1 hk
    show RT (f_X12_unknown_L4 M (n + 1) l1 (nI p)) _
    have ll := liM_lt (E := E) (V0 := V0) (i := i) (p := p)
    have c := kn_card (E := E) (i := i) h12 hp hi
    have gb : f_X12_bits (nI (liM E V0 i p)) = some (nI (pcn (liM E V0 i p))) := g_bits (by omega)
    unfold f_X12_unknown_L4
    simp (disch := omega) only [bnd_nr, li_0, li_1, li_2, li_3, li_4, li_5, li_6, li_7, li_8, li_9, li_10, li_11, li_12, li_13, li_14, li_15, li_16, li_17, li_18, li_19, li_20, li_21, li_22, li_23, li_24, li_25, li_26, li_27, li_28, li_29, li_30, li_31, li_32, li_33, li_34, li_35, li_36, li_37, li_38, li_39, li_40, li_41, li_42, li_43, li_44, li_45, li_46, li_47, li_48, li_49, li_50, li_51, li_52, li_53, li_54, li_55, li_56, li_57, li_58, li_59, li_60, li_61, li_62, li_63, li_64, li_74, li_86, li_87, li_88, li_96, li_97, li_98, li_99, li_100, li_101, li_102, li_103, li_104, li_105, li_107, li_108, li_109, li_110, li_111, li_112, li_114, li_115, li_116, li_117, li_118, li_121, li_122, li_124, li_136, li_148, li_160, li_680, li_200, li_201, li_255, li_700, li_950, li_1000, li_1400, li_3440, li_4096, li_9999, li_10000, li_20000, li_20033, li_20038, li_20124, li_32767, li_65535, li_1103515245, li_12345, li_m, sx_grd, sx_clamp, nI_add, sx_sub, pk_mul, sx_le, sx_lt, sx_eq, sx_eqm, sx_meq, sx_lem, sx_mle, sx_ltm, sx_mlt, sx_addm, sx_shl, sx_bit1, sx_bit0, fa_or, uA_s, uA_n, sA_s, sA_n, sx_uA, sx_uAn, sx_sAs, pk_us, pk_un, if_true, if_false, if_pos, if_neg, ob_some, Nat.add_zero, Nat.add_sub_cancel, eq_self, ne_eq, not_true, not_false_iff, false_or, true_or, or_false, or_true, false_and, true_and, and_false, and_true, e, e1, l p hp, gb]
    exact hk _ rfl
theorem m_allKnownIn {M : MS} {E : RE} {V : VT} (v : VM M 86 V) (w : WFV V) (ec : EC E M) (k : EOK E) (he : ve V + 101 ≤ 20000) : RT (f_X12_allKnownIn M) (fun q => QF M q.2 ∧ q.1 = if AK E V < 101 then nI (AK E V) else nI 9999) := by
  have b0 := w.1.1
  refine RT.cps (fun Q hQ => ?_)
  unfold f_X12_allKnownIn
  refine RT.loop0 (fun n p (z : MS) => f_X12_allKnownIn_L2 n (nI p) z) (vn V) (fun p z => KF M z ∧ ∀ q, q < p → z.2.2 17 q = nI 0) Q M (by omega) ⟨⟨rfl, rfl, fun _ _ => rfl⟩, fun q hq => absurd hq (Nat.not_lt_zero _)⟩ ?_ ?_
  · intro n z ⟨z1, z2⟩
    show RT (f_X12_allKnownIn_L2 (n + 1) (nI (vn V)) z) _
    have vz := z1.vm v
    unfold f_X12_allKnownIn_L2
    refine RT.itT (by rw [vz.1]; exact nI_le (Nat.le_refl _) (by omega)) ?_
    refine RT.loop0 (fun n i (y : MS) => f_X12_allKnownIn_L25 n (nI i) y) 101 (fun i y => (∀ j, j < i → akB E V (j + 1) = false) ∧ QF M y ∧ VM y 86 (It E V i) ∧ LI y E V i) Q z (by omega) ⟨fun j hj => absurd hj (Nat.not_lt_zero _), z1.qf, vz, fun p hp => ?_⟩ ?_ ?_
    · rw [z2 p hp]
      congr 1
      exact (msk_zero.mpr (fb_ct_zero.mpr (fun q _ => by unfold rmF; rfl))).symm
    · intro n y ⟨no, y1, y2, y3⟩
      show RT (f_X12_allKnownIn_L25 (n + 1) (nI 101) y) _
      have f : AK E V = 101 := first_none no
      unfold f_X12_allKnownIn_L25
      exact RT.itT (show nI 100 < nI 101 from by decide) (RT.done hQ ⟨y1, by rw [f]; rfl⟩)
    · intro n i y hi ⟨no, y1, y2, y3⟩ hk
      show RT (f_X12_allKnownIn_L25 (n + 1) (nI i) y) _
      obtain ⟨wi, ei, ni⟩ := It_wf (E := E) w i (by omega)
      have u := uS_le (E := E) (V0 := V) (i := i + 1) (k := vn V) b0.1 b0.1
      unfold f_X12_allKnownIn_L25
      refine RT.itF (show ¬ nI 100 < nI i from nI_nlt (by omega) (by omega)) ?_
      refine RT.bind (m_knows y2 wi.1 ni y3) (fun q ⟨q1, q2⟩ => ?_)
      have vq := q1.vm y2
      rw [m_unknown (by rw [vq.1, ni]) b0.1 q2 (by omega), ob_some]
      have u0 := uS_0 (E := E) (V0 := V) (i := i + 1) b0.1 (by omega)
      cases eq : akB E V (i + 1)
      · refine RT.itF (fun z9 => ?_) ?_
        · have := u0.mp ((nI_eq (a := uS E V (i + 1) (vn V) / 2) (b := 0) (by omega) (by omega)).mp z9)
          rw [eq] at this; cases this
        · refine RT.bind (m_ev86 vq wi (ec.qf (y1.trans q1.qf)) k (by omega)) (fun r ⟨r1, r2, r3⟩ => ?_)
          rw [bnd_nr, nI_1]
          refine hk _ ⟨fun j hj => ?_, (y1.trans q1.qf).trans r1.qf, r3, fun p hp => ?_⟩
          · by_cases ji : j = i
            · subst ji; exact eq
            · exact no j (by omega)
          · rw [r1.2.2.1 17 (by omega) (by omega) (by omega) (by omega)]; exact q2 p hp
      · have f : AK E V = i := first_is hi eq no
        refine RT.itT (by rw [u0.mpr eq]; rfl) (RT.done hQ ⟨y1.trans q1.qf, by rw [f, if_pos hi]⟩)
  · intro n p z hp ⟨z1, z2⟩ hk
    show RT (f_X12_allKnownIn_L2 (n + 1) (nI p) z) _
    have vz := z1.vm v
    unfold f_X12_allKnownIn_L2
    refine RT.itF (by rw [vz.1]; exact nI_ge hp (by omega)) ?_
    rw [sx_grd (by omega) (by omega), bnd_nr, bnd_nr, nI_1, sx_clamp (by omega)]
    refine hk _ ⟨⟨z1.1, z1.2.1, fun j hj => by simp only [uA_n hj]; exact z1.2.2 j hj⟩, fun q hq => ?_⟩
    simp only [uA_s]
    by_cases qp : q = p
    · subst qp; exact pk_us
    · rw [pk_un qp]; exact z2 q (by omega)
theorem m_known0 {M : MS} {E : RE} {V : VT} (v : VM M 86 V) (w : WFV V) (ec : EC E M) (k : EOK E) {p n0 : Nat} (hp : p < vn V) (hn : n0 ≤ 100) (he : ve V + 101 ≤ 20000) : RT (f_X12_known_L39 (nI p) (nI n0) FUEL (nI (cpN V p)) (nI 0) M) (fun q => EVF M q.2 ∧ q.1 = nI (liM E V (n0 + 1) p)) := by
  have b0 := w.1.1
  refine RT.cps (fun Q hQ => ?_)
  refine RT.loop0_2 (fun n i (l3 : Int32) (z : MS) => f_X12_known_L39 (nI p) (nI n0) n l3 (nI i) z) n0 (fun i l3 z => l3 = nI (liM E V (i + 1) p) ∧ EVF M z ∧ VM z 86 (It E V i)) Q _ M (by omega) ⟨?_, EVF.refl M, v⟩ ?_ ?_
  · rw [← liM_succ (E := E) (V0 := V) (i := 0) b0.1 rfl]
    congr 1
    rw [show liM E V 0 p = 0 from msk_zero.mpr (fb_ct_zero.mpr (fun q _ => by unfold rmF; rfl)), Nat.zero_or]
    rfl
  · intro n l3 z ⟨e, z1, z2⟩
    show RT (f_X12_known_L39 (nI p) (nI n0) (n + 1) l3 (nI n0) z) _
    unfold f_X12_known_L39
    exact RT.itT (nI_le (Nat.le_refl _) (by omega)) (RT.done hQ ⟨z1, e⟩)
  · intro n i l3 z hi ⟨e, z1, z2⟩ hk
    show RT (f_X12_known_L39 (nI p) (nI n0) (n + 1) l3 (nI i) z) _
    obtain ⟨wi, ei, ni⟩ := It_wf (E := E) w i (by omega)
    obtain ⟨wj, ej, nj⟩ := It_wf (E := E) w (i + 1) (by omega)
    unfold f_X12_known_L39
    refine RT.itF (nI_ge hi (by omega)) ?_
    refine RT.bind (m_ev86 z2 wi (ec.qf z1.qf) k (by omega)) (fun q ⟨q1, q2, q3⟩ => ?_)
    have q3 : VM q 86 (It E V (i + 1)) := q3
    rw [show (86 : Int32) = nI 86 from rfl, m_withOne q3 wj.1 (by omega) (by omega), ob_some, bnd_nr, bnd_nr, nI_1, e, fa_or, liM_succ b0.1 nj]
    exact hk _ _ ⟨rfl, z1.trans q1, q3⟩
