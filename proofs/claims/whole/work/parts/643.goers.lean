/-! rules: told or not, steps, how many; PICKS and KEEPS -/
abbrev RU : Type := Bool × (Nat → Nat) × Nat
abbrev RE : Type := RU × RU
def RUok (r : RU) (lo hi : Nat) : Prop := r.1 = true → r.2.2 ≤ 700 ∧ hh r.2.1 r.2.2 = 1 ∧ ∀ i, i < r.2.2 → okc (hh r.2.1 i) (r.2.1 i) ∧ r.2.1 i < 20125 ∧ (10000 ≤ r.2.1 i → r.2.1 i < 20000 → lo + 10000 ≤ r.2.1 i ∧ r.2.1 i ≤ hi + 10000)
def EOK (E : RE) : Prop := RUok E.1 0 5 ∧ RUok E.2 4 8
def RCo (R : Ob) (r : RU) : Prop := R.1 0 = nI (if r.1 then 1 else 0) ∧ (r.1 = true → R.1 1 = nI r.2.2 ∧ ∀ i, i < r.2.2 → R.2 1 i = nI (r.2.1 i))
def RMo (M : MS) (at1 : Int32) (r : RU) : Prop := (r.1 = false → at1 = mO) ∧ (r.1 = true → ∃ at0, at1 = nI at0 ∧ RM (M.2.2 2) r.2.1 r.2.2 at0)
theorem RCo.of {R : Ob} {r : RU} {lo hi : Nat} (h : RCo R r) (k : RUok r lo hi) (hb : hi ≤ 8) (t : r.1 = true) (val : Nat → Int32) : RT (f_X7_of R val 9) (fun q => q.1 = ss r.2.1 val r.2.2 0 ∧ RCo q.2 r) := by
  obtain ⟨k1, k2, k3⟩ := k t
  obtain ⟨h1, h2⟩ := h.2 t
  refine (r_class (R := R) (c := r.2.1) (len := r.2.2) ⟨k1, h1, fun i hi9 => ⟨h2 i hi9, (k3 i hi9).1, (k3 i hi9).2.1, fun a b => by have := (k3 i hi9).2.2 a b; omega⟩, k2⟩ val).weak (fun q hq => ⟨hq.1, ?_⟩)
  unfold RCo
  rw [hq.2.1, hq.2.2]
  exact h
def pvF (V : VT) (p : Nat) : Nat → Int32 := fun k => if k = 0 then nI (rk V p) else if k = 1 then nI (pl V p) else if k = 2 then nI (si V p) else if k = 3 then mv V p else if k = 4 then nI (sz V (ho V p)) else nI (ve V)
def kvF (V : VT) (h : Nat) : Nat → Int32 := fun k => if k = 4 then nI (sz V h) else if k = 5 then nI (ve V) else if k = 6 then nI h else if k = 7 then nI (rs V h) else nI (ol V h)
def wr (E : RE) (V : VT) (p : Nat) : Int32 := if E.1.1 then ss E.1.2.1 (pvF V p) E.1.2.2 0 else 0
def kb (E : RE) (V : VT) (h : Nat) : Bool := E.2.1 && decide (¬ ss E.2.2.1 (kvF V h) E.2.2.2 0 ≤ 0)
def bts (E : RE) (V : VT) (p q : Nat) : Bool := decide (wr E V q < wr E V p) || (decide (wr E V q = wr E V p) && decide (pl V q ≤ pl V p))
def goB (E : RE) (H : Nat → Bool) (V : VT) (p : Nat) : Bool := !kb E V (ho V p) && (!H p && decide (∀ q, q < vn V → ho V q = ho V p → H q = false → bts E V p q = true))
theorem bts_iff {E : RE} {V : VT} {p q : Nat} : bts E V p q = true ↔ (wr E V q).toInt < (wr E V p).toInt ∨ ((wr E V q).toInt = (wr E V p).toInt ∧ pl V q ≤ pl V p) := by
  unfold bts
  rw [Bool.or_eq_true, Bool.and_eq_true, decide_eq_true_eq, decide_eq_true_eq, decide_eq_true_eq, fa_lt, fa_eq]
theorem goB_iff {E : RE} {H : Nat → Bool} {V : VT} {p : Nat} : goB E H V p = true ↔ kb E V (ho V p) = false ∧ H p = false ∧ ∀ q, q < vn V → ho V q = ho V p → H q = false → bts E V p q = true := by
  unfold goB
  rw [Bool.and_eq_true, Bool.and_eq_true, decide_eq_true_eq]
  simp only [Bool.not_eq_true']
theorem GOK_go {E : RE} {H : Nat → Bool} {V : VT} (w : WFP V) : GOK (goB E H V) V := by
  intro p q hp hq gp gq e
  obtain ⟨p1, p2, p3⟩ := goB_iff.mp gp
  obtain ⟨q1, q2, q3⟩ := goB_iff.mp gq
  have a := bts_iff.mp (p3 q hq e.symm q2)
  have b := bts_iff.mp (q3 p hp e p2)
  exact w.2.2.1 p q hp hq e (by omega)
theorem two_sz {V : VT} (w : WFP V) {p q : Nat} (hp : p < vn V) (hq : q < vn V) (e : ho V p = ho V q) (n : p ≠ q) : 1 < sz V (ho V p) := by
  have a := (w.2.1 p hp).2.1
  have b := (w.2.1 q hq).2.1
  rw [← e] at b
  have : pl V p ≠ pl V q := fun z => n (w.2.2.1 p q hp hq e z)
  omega
/-- who goes out of a house, or none -/
def GR (G : Nat → Bool) (V : VT) (h : Nat) (g : Int32) : Prop := (g = mO ∧ ∀ p, p < vn V → ho V p = h → G p = false) ∨ ∃ p, p < vn V ∧ g = nI p ∧ ho V p = h ∧ G p = true
theorem c_worthOf {D Rp Rk v : Ob} {E : RE} {V : VT} (c : VC v V) (w : WFP V) (k : EOK E) (hR : RCo Rp E.1) (t : E.1.1 = true) {p : Nat} (hp : p < vn V) : RT (f_X2_worthOf D Rp Rk v (nI p)) (fun q => q.1 = wr E V p ∧ (q.2.1.1 = D.1 ∧ ∀ j, j ≠ 4 → q.2.1.2 j = D.2 j) ∧ RCo q.2.2 E.1) := by
  refine RT.cps (fun Q hQ => ?_)
  have b := w.2.1 p hp
  have b0 := w.1
  unfold f_X2_worthOf
  simp (disch := omega) only [bnd_nr, li_0, li_1, li_2, li_3, li_4, li_5, li_6, li_7, li_8, li_9, li_10, li_11, li_12, li_13, li_14, li_15, li_16, li_17, li_18, li_19, li_20, li_21, li_22, li_23, li_24, li_25, li_26, li_27, li_28, li_29, li_30, li_31, li_32, li_33, li_34, li_35, li_36, li_37, li_38, li_39, li_40, li_41, li_42, li_43, li_44, li_45, li_46, li_47, li_48, li_49, li_50, li_51, li_52, li_53, li_54, li_55, li_56, li_57, li_58, li_59, li_60, li_61, li_62, li_63, li_64, li_74, li_86, li_96, li_97, li_98, li_99, li_100, li_121, li_122, li_200, li_201, li_255, li_700, li_950, li_1000, li_1400, li_3440, li_4096, li_9999, li_10000, li_20000, li_20033, li_20038, li_20124, li_32767, li_65535, li_1103515245, li_12345, li_m, sx_grd, sx_clamp, nI_add, sx_sub, pk_mul, sx_le, sx_lt, sx_eq, sx_eqm, sx_meq, sx_lem, sx_mle, sx_ltm, sx_mlt, sx_addm, sx_shl, sx_bit1, sx_bit0, fa_or, uA_s, uA_n, sA_s, sA_n, sx_uA, sx_uAn, sx_sAs, pk_us, pk_un, if_true, if_false, if_pos, if_neg, ob_some, Nat.add_zero, Nat.add_sub_cancel, eq_self, ne_eq, not_true, not_false_iff, false_or, true_or, or_false, or_true, false_and, true_and, and_false, and_true, c_since c w hp, c.r p hp, c.p p hp, c.m p hp, c.h p hp, c.z _ b.1, c.1.2.2]
  refine RT.bind (hR.of k.1 (by omega) t _) (fun q hq => RT.done hQ ⟨?_, ⟨rfl, fun j hj => ?_⟩, hq.2⟩)
  · rw [hq.1, wr, if_pos t]
    refine congrFun (ss_cong (lo := 0) (hi := 5) (len := E.1.2.2) (fun i hi => ((k.1 t).2.2 i hi).2.2) (fun j _ hj => ?_) _ (Nat.le_refl _)) 0
    unfold pvF
    rcases (show j = 0 ∨ j = 1 ∨ j = 2 ∨ j = 3 ∨ j = 4 ∨ j = 5 by omega) with rfl | rfl | rfl | rfl | rfl | rfl <;> simp (disch := omega) only [bnd_nr, li_0, li_1, li_2, li_3, li_4, li_5, li_6, li_7, li_8, li_9, li_10, li_11, li_12, li_13, li_14, li_15, li_16, li_17, li_18, li_19, li_20, li_21, li_22, li_23, li_24, li_25, li_26, li_27, li_28, li_29, li_30, li_31, li_32, li_33, li_34, li_35, li_36, li_37, li_38, li_39, li_40, li_41, li_42, li_43, li_44, li_45, li_46, li_47, li_48, li_49, li_50, li_51, li_52, li_53, li_54, li_55, li_56, li_57, li_58, li_59, li_60, li_61, li_62, li_63, li_64, li_74, li_86, li_96, li_97, li_98, li_99, li_100, li_121, li_122, li_200, li_201, li_255, li_700, li_950, li_1000, li_1400, li_3440, li_4096, li_9999, li_10000, li_20000, li_20033, li_20038, li_20124, li_32767, li_65535, li_1103515245, li_12345, li_m, sx_grd, sx_clamp, nI_add, sx_sub, pk_mul, sx_le, sx_lt, sx_eq, sx_eqm, sx_meq, sx_lem, sx_mle, sx_ltm, sx_mlt, sx_addm, sx_shl, sx_bit1, sx_bit0, fa_or, uA_s, uA_n, sA_s, sA_n, sx_uA, sx_uAn, sx_sAs, pk_us, pk_un, if_true, if_false, if_pos, if_neg, ob_some, Nat.add_zero, Nat.add_sub_cancel, eq_self, ne_eq, not_true, not_false_iff, false_or, true_or, or_false, or_true, false_and, true_and, and_false, and_true]
  · simp (disch := omega) only [bnd_nr, li_0, li_1, li_2, li_3, li_4, li_5, li_6, li_7, li_8, li_9, li_10, li_11, li_12, li_13, li_14, li_15, li_16, li_17, li_18, li_19, li_20, li_21, li_22, li_23, li_24, li_25, li_26, li_27, li_28, li_29, li_30, li_31, li_32, li_33, li_34, li_35, li_36, li_37, li_38, li_39, li_40, li_41, li_42, li_43, li_44, li_45, li_46, li_47, li_48, li_49, li_50, li_51, li_52, li_53, li_54, li_55, li_56, li_57, li_58, li_59, li_60, li_61, li_62, li_63, li_64, li_74, li_86, li_96, li_97, li_98, li_99, li_100, li_121, li_122, li_200, li_201, li_255, li_700, li_950, li_1000, li_1400, li_3440, li_4096, li_9999, li_10000, li_20000, li_20033, li_20038, li_20124, li_32767, li_65535, li_1103515245, li_12345, li_m, sx_grd, sx_clamp, nI_add, sx_sub, pk_mul, sx_le, sx_lt, sx_eq, sx_eqm, sx_meq, sx_lem, sx_mle, sx_ltm, sx_mlt, sx_addm, sx_shl, sx_bit1, sx_bit0, fa_or, uA_s, uA_n, sA_s, sA_n, sx_uA, sx_uAn, sx_sAs, pk_us, pk_un, if_true, if_false, if_pos, if_neg, ob_some, Nat.add_zero, Nat.add_sub_cancel, eq_self, ne_eq, not_true, not_false_iff, false_or, true_or, or_false, or_true, false_and, true_and, and_false, and_true]
theorem c_keptIn {D Rp Rk v : Ob} {E : RE} {V : VT} (c : VC v V) (w : WFP V) (k : EOK E) (hR : RCo Rk E.2) (t : E.2.1 = true) : RT (f_X2_keptIn D Rp Rk v) (fun q => q.1 = nI (msk (kb E V) (vh V)) ∧ (q.2.1.1 = D.1 ∧ ∀ j, j ≠ 3 → j ≠ 4 → q.2.1.2 j = D.2 j) ∧ RCo q.2.2 E.2) := by
  refine RT.cps (fun Q hQ => ?_)
  have b0 := w.1
  unfold f_X2_keptIn
  rw [j_fill _ (by omega)]
  simp (disch := omega) only [bnd_nr, li_0, li_1, li_2, li_3, li_4, li_5, li_6, li_7, li_8, li_9, li_10, li_11, li_12, li_13, li_14, li_15, li_16, li_17, li_18, li_19, li_20, li_21, li_22, li_23, li_24, li_25, li_26, li_27, li_28, li_29, li_30, li_31, li_32, li_33, li_34, li_35, li_36, li_37, li_38, li_39, li_40, li_41, li_42, li_43, li_44, li_45, li_46, li_47, li_48, li_49, li_50, li_51, li_52, li_53, li_54, li_55, li_56, li_57, li_58, li_59, li_60, li_61, li_62, li_63, li_64, li_74, li_86, li_96, li_97, li_98, li_99, li_100, li_121, li_122, li_200, li_201, li_255, li_700, li_950, li_1000, li_1400, li_3440, li_4096, li_9999, li_10000, li_20000, li_20033, li_20038, li_20124, li_32767, li_65535, li_1103515245, li_12345, li_m, sx_grd, sx_clamp, nI_add, sx_sub, pk_mul, sx_le, sx_lt, sx_eq, sx_eqm, sx_meq, sx_lem, sx_mle, sx_ltm, sx_mlt, sx_addm, sx_shl, sx_bit1, sx_bit0, fa_or, uA_s, uA_n, sA_s, sA_n, sx_uA, sx_uAn, sx_sAs, pk_us, pk_un, if_true, if_false, if_pos, if_neg, ob_some, Nat.add_zero, Nat.add_sub_cancel, eq_self, ne_eq, not_true, not_false_iff, false_or, true_or, or_false, or_true, false_and, true_and, and_false, and_true]
  refine RT.loop0_2 (fun n i (z0 : Ob) (z2 : Ob) => f_X2_keptIn_L10 Rp v n (nI i) z0 z2) (vn V) (fun i z0 z2 => z2 = Rk ∧ z0.1 = D.1 ∧ (∀ j, j ≠ 3 → z0.2 j = D.2 j) ∧ ∀ h, h < 13 → z0.2 3 h = nI (fb_sm (fun p => if ho V p = h then rk V p else 0) i)) _ _ _ (by omega) ?_ ?_ ?_
  · refine ⟨rfl, rfl, fun j hj => sA_n hj, fun h hh => ?_⟩
    simp (disch := omega) only [bnd_nr, li_0, li_1, li_2, li_3, li_4, li_5, li_6, li_7, li_8, li_9, li_10, li_11, li_12, li_13, li_14, li_15, li_16, li_17, li_18, li_19, li_20, li_21, li_22, li_23, li_24, li_25, li_26, li_27, li_28, li_29, li_30, li_31, li_32, li_33, li_34, li_35, li_36, li_37, li_38, li_39, li_40, li_41, li_42, li_43, li_44, li_45, li_46, li_47, li_48, li_49, li_50, li_51, li_52, li_53, li_54, li_55, li_56, li_57, li_58, li_59, li_60, li_61, li_62, li_63, li_64, li_74, li_86, li_96, li_97, li_98, li_99, li_100, li_121, li_122, li_200, li_201, li_255, li_700, li_950, li_1000, li_1400, li_3440, li_4096, li_9999, li_10000, li_20000, li_20033, li_20038, li_20124, li_32767, li_65535, li_1103515245, li_12345, li_m, sx_grd, sx_clamp, nI_add, sx_sub, pk_mul, sx_le, sx_lt, sx_eq, sx_eqm, sx_meq, sx_lem, sx_mle, sx_ltm, sx_mlt, sx_addm, sx_shl, sx_bit1, sx_bit0, fa_or, uA_s, uA_n, sA_s, sA_n, sx_uA, sx_uAn, sx_sAs, pk_us, pk_un, if_true, if_false, if_pos, if_neg, ob_some, Nat.add_zero, Nat.add_sub_cancel, eq_self, ne_eq, not_true, not_false_iff, false_or, true_or, or_false, or_true, false_and, true_and, and_false, and_true]
    rw [fa_fill_in hh]; rfl
  · intro n z0 z2 ⟨e1, e2, e3, e4⟩; subst e1
    show RT (f_X2_keptIn_L10 Rp v (n + 1) (nI (vn V)) z0 z2) _
    unfold f_X2_keptIn_L10
    simp (disch := omega) only [bnd_nr, li_0, li_1, li_2, li_3, li_4, li_5, li_6, li_7, li_8, li_9, li_10, li_11, li_12, li_13, li_14, li_15, li_16, li_17, li_18, li_19, li_20, li_21, li_22, li_23, li_24, li_25, li_26, li_27, li_28, li_29, li_30, li_31, li_32, li_33, li_34, li_35, li_36, li_37, li_38, li_39, li_40, li_41, li_42, li_43, li_44, li_45, li_46, li_47, li_48, li_49, li_50, li_51, li_52, li_53, li_54, li_55, li_56, li_57, li_58, li_59, li_60, li_61, li_62, li_63, li_64, li_74, li_86, li_96, li_97, li_98, li_99, li_100, li_121, li_122, li_200, li_201, li_255, li_700, li_950, li_1000, li_1400, li_3440, li_4096, li_9999, li_10000, li_20000, li_20033, li_20038, li_20124, li_32767, li_65535, li_1103515245, li_12345, li_m, sx_grd, sx_clamp, nI_add, sx_sub, pk_mul, sx_le, sx_lt, sx_eq, sx_eqm, sx_meq, sx_lem, sx_mle, sx_ltm, sx_mlt, sx_addm, sx_shl, sx_bit1, sx_bit0, fa_or, uA_s, uA_n, sA_s, sA_n, sx_uA, sx_uAn, sx_sAs, pk_us, pk_un, if_true, if_false, if_pos, if_neg, ob_some, Nat.add_zero, Nat.add_sub_cancel, eq_self, ne_eq, not_true, not_false_iff, false_or, true_or, or_false, or_true, false_and, true_and, and_false, and_true, c.1.1]
    refine RT.loop0_3 (fun n i (l2 : Int32) (z0 : Ob) (z2 : Ob) => f_X2_keptIn_L48 Rp v n l2 (nI i) z0 z2) (vh V) (fun i l2 z0 z2 => l2 = nI (msk (kb E V) i) ∧ RCo z2 E.2 ∧ z0.1 = D.1 ∧ (∀ j, j ≠ 3 → j ≠ 4 → z0.2 j = D.2 j) ∧ ∀ h, h < 13 → z0.2 3 h = nI (rs V h)) _ _ _ _ (by omega) ?_ ?_ ?_
    · exact ⟨rfl, hR, e2, fun j h1 _ => e3 j h1, e4⟩
    · intro n l2 z0 z2 ⟨d1, d2, d3, d4, d5⟩
      show RT (f_X2_keptIn_L48 Rp v (n + 1) l2 (nI (vh V)) z0 z2) _
      unfold f_X2_keptIn_L48
      simp (disch := omega) only [bnd_nr, li_0, li_1, li_2, li_3, li_4, li_5, li_6, li_7, li_8, li_9, li_10, li_11, li_12, li_13, li_14, li_15, li_16, li_17, li_18, li_19, li_20, li_21, li_22, li_23, li_24, li_25, li_26, li_27, li_28, li_29, li_30, li_31, li_32, li_33, li_34, li_35, li_36, li_37, li_38, li_39, li_40, li_41, li_42, li_43, li_44, li_45, li_46, li_47, li_48, li_49, li_50, li_51, li_52, li_53, li_54, li_55, li_56, li_57, li_58, li_59, li_60, li_61, li_62, li_63, li_64, li_74, li_86, li_96, li_97, li_98, li_99, li_100, li_121, li_122, li_200, li_201, li_255, li_700, li_950, li_1000, li_1400, li_3440, li_4096, li_9999, li_10000, li_20000, li_20033, li_20038, li_20124, li_32767, li_65535, li_1103515245, li_12345, li_m, sx_grd, sx_clamp, nI_add, sx_sub, pk_mul, sx_le, sx_lt, sx_eq, sx_eqm, sx_meq, sx_lem, sx_mle, sx_ltm, sx_mlt, sx_addm, sx_shl, sx_bit1, sx_bit0, fa_or, uA_s, uA_n, sA_s, sA_n, sx_uA, sx_uAn, sx_sAs, pk_us, pk_un, if_true, if_false, if_pos, if_neg, ob_some, Nat.add_zero, Nat.add_sub_cancel, eq_self, ne_eq, not_true, not_false_iff, false_or, true_or, or_false, or_true, false_and, true_and, and_false, and_true, c.1.2.1]
      exact RT.done hQ ⟨d1, ⟨d3, d4⟩, d2⟩
    · intro n i l2 z0 z2 hi ⟨d1, d2, d3, d4, d5⟩ hk
      show RT (f_X2_keptIn_L48 Rp v (n + 1) l2 (nI i) z0 z2) _
      unfold f_X2_keptIn_L48
      simp (disch := omega) only [bnd_nr, li_0, li_1, li_2, li_3, li_4, li_5, li_6, li_7, li_8, li_9, li_10, li_11, li_12, li_13, li_14, li_15, li_16, li_17, li_18, li_19, li_20, li_21, li_22, li_23, li_24, li_25, li_26, li_27, li_28, li_29, li_30, li_31, li_32, li_33, li_34, li_35, li_36, li_37, li_38, li_39, li_40, li_41, li_42, li_43, li_44, li_45, li_46, li_47, li_48, li_49, li_50, li_51, li_52, li_53, li_54, li_55, li_56, li_57, li_58, li_59, li_60, li_61, li_62, li_63, li_64, li_74, li_86, li_96, li_97, li_98, li_99, li_100, li_121, li_122, li_200, li_201, li_255, li_700, li_950, li_1000, li_1400, li_3440, li_4096, li_9999, li_10000, li_20000, li_20033, li_20038, li_20124, li_32767, li_65535, li_1103515245, li_12345, li_m, sx_grd, sx_clamp, nI_add, sx_sub, pk_mul, sx_le, sx_lt, sx_eq, sx_eqm, sx_meq, sx_lem, sx_mle, sx_ltm, sx_mlt, sx_addm, sx_shl, sx_bit1, sx_bit0, fa_or, uA_s, uA_n, sA_s, sA_n, sx_uA, sx_uAn, sx_sAs, pk_us, pk_un, if_true, if_false, if_pos, if_neg, ob_some, Nat.add_zero, Nat.add_sub_cancel, eq_self, ne_eq, not_true, not_false_iff, false_or, true_or, or_false, or_true, false_and, true_and, and_false, and_true, c.1.2.1, c.1.2.2, c_old c w hi, c.z i hi, d5 i (by omega)]
      refine RT.bind (d2.of k.2 (by omega) t _) (fun q hq => ?_)
      have val : q.1 = ss E.2.2.1 (kvF V i) E.2.2.2 0 := by
        rw [hq.1]
        refine congrFun (ss_cong (lo := 4) (hi := 8) (len := E.2.2.2) (fun i hi => ((k.2 t).2.2 i hi).2.2) (fun j hj0 hj => ?_) _ (Nat.le_refl _)) 0
        unfold kvF
        rcases (show j = 4 ∨ j = 5 ∨ j = 6 ∨ j = 7 ∨ j = 8 by omega) with rfl | rfl | rfl | rfl | rfl <;> simp (disch := omega) only [bnd_nr, li_0, li_1, li_2, li_3, li_4, li_5, li_6, li_7, li_8, li_9, li_10, li_11, li_12, li_13, li_14, li_15, li_16, li_17, li_18, li_19, li_20, li_21, li_22, li_23, li_24, li_25, li_26, li_27, li_28, li_29, li_30, li_31, li_32, li_33, li_34, li_35, li_36, li_37, li_38, li_39, li_40, li_41, li_42, li_43, li_44, li_45, li_46, li_47, li_48, li_49, li_50, li_51, li_52, li_53, li_54, li_55, li_56, li_57, li_58, li_59, li_60, li_61, li_62, li_63, li_64, li_74, li_86, li_96, li_97, li_98, li_99, li_100, li_121, li_122, li_200, li_201, li_255, li_700, li_950, li_1000, li_1400, li_3440, li_4096, li_9999, li_10000, li_20000, li_20033, li_20038, li_20124, li_32767, li_65535, li_1103515245, li_12345, li_m, sx_grd, sx_clamp, nI_add, sx_sub, pk_mul, sx_le, sx_lt, sx_eq, sx_eqm, sx_meq, sx_lem, sx_mle, sx_ltm, sx_mlt, sx_addm, sx_shl, sx_bit1, sx_bit0, fa_or, uA_s, uA_n, sA_s, sA_n, sx_uA, sx_uAn, sx_sAs, pk_us, pk_un, if_true, if_false, if_pos, if_neg, ob_some, Nat.add_zero, Nat.add_sub_cancel, eq_self, ne_eq, not_true, not_false_iff, false_or, true_or, or_false, or_true, false_and, true_and, and_false, and_true]
      have hm := msk31 (f := kb E V) (n := i) (by omega)
      refine RT.ite (fun z => ?_) (fun z => ?_)
      · refine hk _ _ _ ⟨?_, hq.2, d3, fun j h1 h2 => by simp (disch := omega) only [uA_n]; exact d4 j h1 h2, fun h hh => by simp (disch := omega) only [uA_n]; exact d5 h hh⟩
        rw [msk_stay (by unfold kb; rw [← val, t]; simp [show q.1 ≤ 0 from z]), d1]
      · refine hk _ _ _ ⟨?_, hq.2, d3, fun j h1 h2 => by simp (disch := omega) only [uA_n]; exact d4 j h1 h2, fun h hh => by simp (disch := omega) only [uA_n]; exact d5 h hh⟩
        rw [msk_step (by unfold kb; rw [← val, t, Bool.true_and]; exact decide_eq_true z), d1, fa_or]
  · intro n i z0 z2 hi ⟨e1, e2, e3, e4⟩ hk; subst e1
    show RT (f_X2_keptIn_L10 Rp v (n + 1) (nI i) z0 z2) _
    have b := w.2.1 i hi
    unfold f_X2_keptIn_L10
    simp (disch := omega) only [bnd_nr, li_0, li_1, li_2, li_3, li_4, li_5, li_6, li_7, li_8, li_9, li_10, li_11, li_12, li_13, li_14, li_15, li_16, li_17, li_18, li_19, li_20, li_21, li_22, li_23, li_24, li_25, li_26, li_27, li_28, li_29, li_30, li_31, li_32, li_33, li_34, li_35, li_36, li_37, li_38, li_39, li_40, li_41, li_42, li_43, li_44, li_45, li_46, li_47, li_48, li_49, li_50, li_51, li_52, li_53, li_54, li_55, li_56, li_57, li_58, li_59, li_60, li_61, li_62, li_63, li_64, li_74, li_86, li_96, li_97, li_98, li_99, li_100, li_121, li_122, li_200, li_201, li_255, li_700, li_950, li_1000, li_1400, li_3440, li_4096, li_9999, li_10000, li_20000, li_20033, li_20038, li_20124, li_32767, li_65535, li_1103515245, li_12345, li_m, sx_grd, sx_clamp, nI_add, sx_sub, pk_mul, sx_le, sx_lt, sx_eq, sx_eqm, sx_meq, sx_lem, sx_mle, sx_ltm, sx_mlt, sx_addm, sx_shl, sx_bit1, sx_bit0, fa_or, uA_s, uA_n, sA_s, sA_n, sx_uA, sx_uAn, sx_sAs, pk_us, pk_un, if_true, if_false, if_pos, if_neg, ob_some, Nat.add_zero, Nat.add_sub_cancel, eq_self, ne_eq, not_true, not_false_iff, false_or, true_or, or_false, or_true, false_and, true_and, and_false, and_true, c.1.1, c.h i hi, c.r i hi, e4 _ (show ho V i < 13 by omega)]
    refine hk _ _ ⟨rfl, e2, fun j hj => by simp (disch := omega) only [uA_n]; exact e3 j hj, fun h hh => ?_⟩
    simp (disch := omega) only [uA_s]
    rw [fb_sm_succ]
    by_cases q : ho V i = h
    · subst q; rw [pk_us, if_pos rfl]
    · rw [pk_un (fun z => q z.symm), if_neg q]; exact e4 h hh
