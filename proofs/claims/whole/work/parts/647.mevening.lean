/-! the reference's evening -/
theorem ne_go {G : Nat → Bool} {V : VT} {h : Nat} (hh : h < vh V) : ne (goV G V) h = oc G (ho V) (vn V) h := by
  unfold ne oc
  have e1 : sz (goV G V) h = fb_ct (fun p => !G p && decide (ho V p = h)) (vn V) := fb_ct_cong (fun p _ => by
    show decide ((if G p then vh V else ho V p) = h) = _
    cases G p
    · simp
    · simp; omega)
  rw [e1]
theorem nx_go {G : Nat → Bool} {V : VT} {h : Nat} (hh : h ≤ vh V) : nx (goV G V) h = fb_ct (oc G (ho V) (vn V)) h := fb_ct_cong (fun k hk => ne_go (by omega))
/-- what a row of the reference holds when the houses before h are left -/
def EI (G : Nat → Bool) (V : VT) (X : Nat → Nat → Int32) (h : Nat) (Y : Nat → Nat → Int32) : Prop := (∀ j, j ≠ 1 → j ≠ 2 → j ≠ 6 → Y j = X j) ∧ (∀ p, p < vn V → Y 1 p = (if G p && decide (ho V p < h) then mO else nI (ho V p)) ∧ Y 2 p = (if ho V p < h then cm G V p else nI (pl V p))) ∧ ∀ k, k < vh V → Y 6 k = nI (if k < h then ol V k + 1 else ol V k)
theorem EI_leave {G : Nat → Bool} {V : VT} (w : WFP V) (g : GOK G V) {X Y : Nat → Nat → Int32} {h x : Nat} (hh : h < vh V) (y : EI G V X h Y) (x1 : x < vn V) (x3 : ho V x = h) (x4 : G x = true) : EI G V X (h + 1) (sA (uA (uA Y 6 h (nI (ol V h + 1))) 1 x mO) 2 (fa_fill (cup (Y 1) (Y 2) x) (Y 2) (vn V))) := by
  obtain ⟨y1, y2, y3⟩ := y
  have b0 := w.1
  have bx := w.2.1 x x1
  refine ⟨fun j j1 j2 j6 => ?_, fun p hp => ?_, fun k hk => ?_⟩
  · rw [sA_n j2, uA_n j1, uA_n j6]; exact y1 j j1 j2 j6
  · have bp := w.2.1 p hp
    have sp := sz_le V (ho V p)
    have sx := sz_le V (ho V x)
    simp (disch := omega) only [bnd_nr, li_0, li_1, li_2, li_3, li_4, li_5, li_6, li_7, li_8, li_9, li_10, li_11, li_12, li_13, li_14, li_15, li_16, li_17, li_18, li_19, li_20, li_21, li_22, li_23, li_24, li_25, li_26, li_27, li_28, li_29, li_30, li_31, li_32, li_33, li_34, li_35, li_36, li_37, li_38, li_39, li_40, li_41, li_42, li_43, li_44, li_45, li_46, li_47, li_48, li_49, li_50, li_51, li_52, li_53, li_54, li_55, li_56, li_57, li_58, li_59, li_60, li_61, li_62, li_63, li_64, li_74, li_86, li_87, li_88, li_96, li_97, li_98, li_99, li_100, li_101, li_102, li_103, li_104, li_105, li_107, li_108, li_109, li_110, li_111, li_112, li_114, li_115, li_116, li_117, li_118, li_121, li_122, li_124, li_136, li_148, li_160, li_680, li_200, li_201, li_255, li_700, li_950, li_1000, li_1400, li_3440, li_4096, li_9999, li_10000, li_20000, li_20033, li_20038, li_20124, li_32767, li_65535, li_1103515245, li_12345, li_m, sx_grd, sx_clamp, nI_add, sx_sub, pk_mul, sx_le, sx_lt, sx_eq, sx_eqm, sx_meq, sx_lem, sx_mle, sx_ltm, sx_mlt, sx_addm, sx_shl, sx_bit1, sx_bit0, fa_or, uA_s, uA_n, sA_s, sA_n, sx_uA, sx_uAn, sx_sAs, pk_us, pk_un, if_true, if_false, if_pos, if_neg, ob_some, Nat.add_zero, Nat.add_sub_cancel, eq_self, ne_eq, not_true, not_false_iff, false_or, true_or, or_false, or_true, false_and, true_and, and_false, and_true, fa_fill_in hp]
    constructor
    · by_cases d : p = x
      · subst d; rw [pk_us, x4, x3, decide_eq_true (show h < h + 1 by omega)]; rfl
      · rw [pk_un d, (y2 p hp).1]
        have ee : (G p && decide (ho V p < h + 1)) = (G p && decide (ho V p < h)) := by
          cases d2 : G p
          · rfl
          · have : ho V p ≠ h := fun z => d (g p x hp x1 d2 x4 (by rw [z, x3]))
            rw [Bool.true_and, Bool.true_and]
            exact decide_eq_decide.mpr (by omega)
        rw [ee]
    · unfold cup
      have e1 : Y 1 x = nI h := by rw [(y2 x x1).1, x3, decide_eq_false (show ¬ h < h by omega), Bool.and_false, if_neg (by decide)]
      have e2 : Y 2 x = nI (pl V x) := by rw [(y2 x x1).2, x3, if_neg (by omega)]
      rw [e1, e2, (y2 p hp).1, (y2 p hp).2]
      by_cases d : ho V p = h
      · have u := up_eq g (p := p) x1 (by rw [x3, d]) x4
        rw [cm, u]
        simp (disch := omega) only [bnd_nr, li_0, li_1, li_2, li_3, li_4, li_5, li_6, li_7, li_8, li_9, li_10, li_11, li_12, li_13, li_14, li_15, li_16, li_17, li_18, li_19, li_20, li_21, li_22, li_23, li_24, li_25, li_26, li_27, li_28, li_29, li_30, li_31, li_32, li_33, li_34, li_35, li_36, li_37, li_38, li_39, li_40, li_41, li_42, li_43, li_44, li_45, li_46, li_47, li_48, li_49, li_50, li_51, li_52, li_53, li_54, li_55, li_56, li_57, li_58, li_59, li_60, li_61, li_62, li_63, li_64, li_74, li_86, li_87, li_88, li_96, li_97, li_98, li_99, li_100, li_101, li_102, li_103, li_104, li_105, li_107, li_108, li_109, li_110, li_111, li_112, li_114, li_115, li_116, li_117, li_118, li_121, li_122, li_124, li_136, li_148, li_160, li_680, li_200, li_201, li_255, li_700, li_950, li_1000, li_1400, li_3440, li_4096, li_9999, li_10000, li_20000, li_20033, li_20038, li_20124, li_32767, li_65535, li_1103515245, li_12345, li_m, sx_grd, sx_clamp, nI_add, sx_sub, pk_mul, sx_le, sx_lt, sx_eq, sx_eqm, sx_meq, sx_lem, sx_mle, sx_ltm, sx_mlt, sx_addm, sx_shl, sx_bit1, sx_bit0, fa_or, uA_s, uA_n, sA_s, sA_n, sx_uA, sx_uAn, sx_sAs, pk_us, pk_un, if_true, if_false, if_pos, if_neg, ob_some, Nat.add_zero, Nat.add_sub_cancel, eq_self, ne_eq, not_true, not_false_iff, false_or, true_or, or_false, or_true, false_and, true_and, and_false, and_true, d, Nat.lt_irrefl, decide_false, Bool.and_false, Bool.false_eq_true, decide_eq_true_eq]
        by_cases q : pl V x < pl V p
        · rw [if_pos q, if_pos (by omega)]
        · rw [if_neg q, if_neg (by omega)]
      · have n1 : ¬ ((if (G p && decide (ho V p < h)) = true then mO else nI (ho V p)) = nI h ∧ ¬ (if ho V p < h then cm G V p else nI (pl V p)) ≤ nI (pl V x)) := by
          intro z
          have z := z.1
          split at z
          · rw [sx_meq (by omega)] at z; exact z
          · rw [sx_eq (by omega) (by omega)] at z; exact d z
        rw [if_neg n1]
        by_cases q : ho V p < h
        · rw [if_pos q, if_pos (by omega)]
        · rw [if_neg q, if_neg (by omega)]
  · simp (disch := omega) only [bnd_nr, li_0, li_1, li_2, li_3, li_4, li_5, li_6, li_7, li_8, li_9, li_10, li_11, li_12, li_13, li_14, li_15, li_16, li_17, li_18, li_19, li_20, li_21, li_22, li_23, li_24, li_25, li_26, li_27, li_28, li_29, li_30, li_31, li_32, li_33, li_34, li_35, li_36, li_37, li_38, li_39, li_40, li_41, li_42, li_43, li_44, li_45, li_46, li_47, li_48, li_49, li_50, li_51, li_52, li_53, li_54, li_55, li_56, li_57, li_58, li_59, li_60, li_61, li_62, li_63, li_64, li_74, li_86, li_87, li_88, li_96, li_97, li_98, li_99, li_100, li_101, li_102, li_103, li_104, li_105, li_107, li_108, li_109, li_110, li_111, li_112, li_114, li_115, li_116, li_117, li_118, li_121, li_122, li_124, li_136, li_148, li_160, li_680, li_200, li_201, li_255, li_700, li_950, li_1000, li_1400, li_3440, li_4096, li_9999, li_10000, li_20000, li_20033, li_20038, li_20124, li_32767, li_65535, li_1103515245, li_12345, li_m, sx_grd, sx_clamp, nI_add, sx_sub, pk_mul, sx_le, sx_lt, sx_eq, sx_eqm, sx_meq, sx_lem, sx_mle, sx_ltm, sx_mlt, sx_addm, sx_shl, sx_bit1, sx_bit0, fa_or, uA_s, uA_n, sA_s, sA_n, sx_uA, sx_uAn, sx_sAs, pk_us, pk_un, if_true, if_false, if_pos, if_neg, ob_some, Nat.add_zero, Nat.add_sub_cancel, eq_self, ne_eq, not_true, not_false_iff, false_or, true_or, or_false, or_true, false_and, true_and, and_false, and_true]
    by_cases d : k = h
    · subst d; rw [pk_us, if_pos (by omega)]
    · rw [pk_un d, y3 k hk]
      by_cases q : k < h
      · rw [if_pos q, if_pos (by omega)]
      · rw [if_neg q, if_neg (by omega)]
theorem EI_stay {G : Nat → Bool} {V : VT} {X Y : Nat → Nat → Int32} {h : Nat} (y : EI G V X h Y) (no : ∀ p, p < vn V → ho V p = h → G p = false) : EI G V X (h + 1) (uA Y 6 h (nI (ol V h + 1))) := by
  obtain ⟨y1, y2, y3⟩ := y
  refine ⟨fun j j1 j2 j6 => ?_, fun p hp => ?_, fun k hk => ?_⟩
  · rw [uA_n j6]; exact y1 j j1 j2 j6
  · simp (disch := omega) only [uA_n]
    have ee : (G p && decide (ho V p < h + 1)) = (G p && decide (ho V p < h)) := by
      cases d2 : G p
      · rfl
      · have : ho V p ≠ h := fun z => by rw [no p hp z] at d2; cases d2
        rw [Bool.true_and, Bool.true_and]
        exact decide_eq_decide.mpr (by omega)
    rw [ee]
    refine ⟨(y2 p hp).1, ?_⟩
    rw [(y2 p hp).2]
    by_cases d : ho V p = h
    · rw [if_neg (by omega), if_pos (by omega), cm, up_no (fun q hq e => no q hq (by rw [e, d]))]; rfl
    · by_cases q : ho V p < h
      · rw [if_pos q, if_pos (by omega)]
      · rw [if_neg q, if_neg (by omega)]
  · simp (disch := omega) only [bnd_nr, li_0, li_1, li_2, li_3, li_4, li_5, li_6, li_7, li_8, li_9, li_10, li_11, li_12, li_13, li_14, li_15, li_16, li_17, li_18, li_19, li_20, li_21, li_22, li_23, li_24, li_25, li_26, li_27, li_28, li_29, li_30, li_31, li_32, li_33, li_34, li_35, li_36, li_37, li_38, li_39, li_40, li_41, li_42, li_43, li_44, li_45, li_46, li_47, li_48, li_49, li_50, li_51, li_52, li_53, li_54, li_55, li_56, li_57, li_58, li_59, li_60, li_61, li_62, li_63, li_64, li_74, li_86, li_87, li_88, li_96, li_97, li_98, li_99, li_100, li_101, li_102, li_103, li_104, li_105, li_107, li_108, li_109, li_110, li_111, li_112, li_114, li_115, li_116, li_117, li_118, li_121, li_122, li_124, li_136, li_148, li_160, li_680, li_200, li_201, li_255, li_700, li_950, li_1000, li_1400, li_3440, li_4096, li_9999, li_10000, li_20000, li_20033, li_20038, li_20124, li_32767, li_65535, li_1103515245, li_12345, li_m, sx_grd, sx_clamp, nI_add, sx_sub, pk_mul, sx_le, sx_lt, sx_eq, sx_eqm, sx_meq, sx_lem, sx_mle, sx_ltm, sx_mlt, sx_addm, sx_shl, sx_bit1, sx_bit0, fa_or, uA_s, uA_n, sA_s, sA_n, sx_uA, sx_uAn, sx_sAs, pk_us, pk_un, if_true, if_false, if_pos, if_neg, ob_some, Nat.add_zero, Nat.add_sub_cancel, eq_self, ne_eq, not_true, not_false_iff, false_or, true_or, or_false, or_true, false_and, true_and, and_false, and_true]
    by_cases d : k = h
    · subst d; rw [pk_us, if_pos (by omega)]
    · rw [pk_un d, y3 k hk]
      by_cases q : k < h
      · rw [if_pos q, if_pos (by omega)]
      · rw [if_neg q, if_neg (by omega)]
/-- the end of an evening: those who have gone make a house -/
theorem m_new {I : Nat → Int32} {w0 : Int64} {A : Nat → Nat → Int32} {f : Nat → Int32} {b : Nat} {G : Nat → Bool} {V : VT} {X : Nat → Nat → Int32} (w : WFV V) (g : GOK G V) (hb : b ≤ 86) (hL : ∀ h, h < vh V → GR G V h (A 14 h)) (x0 : X 0 0 = nI (ve V)) (x1 : X 0 1 = nI (nx (goV G V) (vh V))) (x2 : ∀ p, p < vn V → X 1 p = (if G p then mO else nI (nx (goV G V) (ho V p))) ∧ X 2 p = cm G V p ∧ X 3 p = nI (if G p then 0 else si V p + 1) ∧ X 4 p = (if G p then mv V p + 1 else mv V p) ∧ X 5 p = nI (rk V p)) (x3 : ∀ h, h < vh V → ne (goV G V) h = true → X 6 (nx (goV G V) h) = nI (ol V h + 1) ∧ X 7 (nx (goV G V) h) = idd V h) : RT (f_X12_eveningGoes_L215 (nI b) (nI (vh V)) FUEL (nI 0) (nI 0) (I, w0, sA A 10 (rowf f b X))) (fun r => ∃ Y, r = (I, w0, sA A 10 (rowf f b Y)) ∧ XP Y (evV G V)) := by
  refine RT.cps (fun Q hQ => ?_)
  have hn := w.hn
  have wp := w.1
  have b0 := wp.1
  have nl : nx (goV G V) (vh V) ≤ vh V := fb_ct_le _ _
  have hs := hg_sum wp g
  have cl : ∀ h, fb_ct (hg G V) h ≤ h := fun h => fb_ct_le _ _
  refine RT.loop0_2 (fun n h (l3 : Int32) (z : MS) => f_X12_eveningGoes_L215 (nI b) (nI (vh V)) n l3 (nI h) z) (vh V) (fun h l3 z => l3 = nI (fb_ct (hg G V) h) ∧ ∃ Y, z = (I, w0, sA A 10 (rowf f b Y)) ∧ (∀ j, j ≠ 1 → j ≠ 2 → Y j = X j) ∧ ∀ p, p < vn V → Y 1 p = (if G p && decide (ho V p < h) then nI (nx (goV G V) (vh V)) else X 1 p) ∧ Y 2 p = (if G p && decide (ho V p < h) then nI (fb_ct (hg G V) (ho V p)) else X 2 p)) _ _ _ (by omega) ?_ ?_ ?_
  · refine ⟨rfl, X, rfl, fun _ _ _ => rfl, fun p hp => ?_⟩
    rw [decide_eq_false (Nat.not_lt_zero _), Bool.and_false, if_neg (by decide), if_neg (by decide)]
    exact ⟨rfl, rfl⟩
  · intro n l3 z ⟨e1, Y, e2, y1, y2⟩; subst e1; subst e2
    show RT (f_X12_eveningGoes_L215 (nI b) (nI (vh V)) (n + 1) _ (nI (vh V)) _) _
    have c1 := cl (vh V)
    have pic : ∀ p, p < vn V → Y 1 p = nI (ho (evV G V) p) ∧ Y 2 p = nI (pl (evV G V) p) ∧ Y 3 p = nI (si (evV G V) p) ∧ Y 4 p = mv (evV G V) p ∧ Y 5 p = nI (rk (evV G V) p) := by
      intro p hp
      obtain ⟨q1, q2, q3, q4, q5⟩ := x2 p hp
      obtain ⟨r1, r2⟩ := y2 p hp
      rw [decide_eq_true (wp.2.1 p hp).1, Bool.and_true] at r1 r2
      rw [r1, r2, y1 3 (by omega) (by omega), y1 4 (by omega) (by omega), y1 5 (by omega) (by omega), q1, q2, q3, q4, q5]
      refine ⟨?_, ?_, rfl, rfl, rfl⟩
      · show _ = nI (nx (goV G V) (if G p then vh V else ho V p))
        cases G p <;> rfl
      · show _ = nI (if G p then fb_ct (hg G V) (ho V p) else if up G V p then pl V p - 1 else pl V p)
        cases G p <;> rfl
    have old : ∀ k, k < nx (goV G V) (vh V) → ∃ a, a < vh V ∧ ne (goV G V) a = true ∧ nx (goV G V) a = k ∧ Y 6 k = nI (ol V a + 1) ∧ Y 7 k = idd V a := by
      intro k hk
      obtain ⟨a, a1, a2, a3⟩ := fb_ct_kth (p := ne (goV G V)) hk
      refine ⟨a, a1, a2, a3, ?_⟩
      have := x3 a a1 a2
      rw [show nx (goV G V) a = k from a3] at this
      rw [y1 6 (by omega) (by omega), y1 7 (by omega) (by omega)]
      exact this
    unfold f_X12_eveningGoes_L215
    by_cases any : 0 < fb_ct G (vn V)
    · have a1 : anyG G V = 1 := if_pos any
      have nev : ne (goV G V) (vh V) = true := decide_eq_true (by rw [sz_go_new wp]; exact any)
      have nk : nx (goV G V) (vh V + 1) = nx (goV G V) (vh V) + 1 := ct_yes nev
      have nk2 : nx (goV G V) (vh V) ≤ 11 := by
        have w2 := (WFV_drop (V := goV G V))
        rcases Nat.lt_or_ge (nx (goV G V) (vh V)) 12 with d | d
        · omega
        · exfalso
          have all : ∀ k, k < vh V → ne (goV G V) k = true := fb_ct_all.mp (show fb_ct (ne (goV G V)) (vh V) = vh V from by
            have : nx (goV G V) (vh V) = fb_ct (ne (goV G V)) (vh V) := rfl
            omega)
          obtain ⟨x, hx1, hx2⟩ := fb_ct_pos.mp any
          have bx := (wp.2.1 x hx1).1
          have s1 := sz_go (G := G) (V := V) bx
          have s2 : 0 < gg G V (ho V x) := fb_ct_pos.mpr ⟨x, hx1, by simp [hx2]⟩
          have s3 : 0 < sz (goV G V) (ho V x) := of_decide_eq_true (all _ bx)
          have s4 := sz_sum wp
          have s5 := fb_sm_le (f := fun k => if k = ho V x then 2 else 1) (g := sz V) (n := vh V) (fun k hk => by
            show (if k = ho V x then 2 else 1) ≤ sz V k
            by_cases q : k = ho V x
            · rw [if_pos q, q]; omega
            · rw [if_neg q]; exact w.2 k hk)
          have s6 := fb_sm_upd (fun _ => 1) 2 (i := ho V x) (n := vh V) bx
          rw [fb_sm_const] at s6
          omega
      have sv : nx (goV G V) (vh (goV G V)) = nx (goV G V) (vh V) + 1 := by
        show nx (goV G V) (vh V + anyG G V) = _
        rw [a1, nk]
      unfold f_X12_founds
      simp (disch := omega) only [bnd_nr, li_0, li_1, li_2, li_3, li_4, li_5, li_6, li_7, li_8, li_9, li_10, li_11, li_12, li_13, li_14, li_15, li_16, li_17, li_18, li_19, li_20, li_21, li_22, li_23, li_24, li_25, li_26, li_27, li_28, li_29, li_30, li_31, li_32, li_33, li_34, li_35, li_36, li_37, li_38, li_39, li_40, li_41, li_42, li_43, li_44, li_45, li_46, li_47, li_48, li_49, li_50, li_51, li_52, li_53, li_54, li_55, li_56, li_57, li_58, li_59, li_60, li_61, li_62, li_63, li_64, li_74, li_86, li_87, li_88, li_96, li_97, li_98, li_99, li_100, li_101, li_102, li_103, li_104, li_105, li_107, li_108, li_109, li_110, li_111, li_112, li_114, li_115, li_116, li_117, li_118, li_121, li_122, li_124, li_136, li_148, li_160, li_680, li_200, li_201, li_255, li_700, li_950, li_1000, li_1400, li_3440, li_4096, li_9999, li_10000, li_20000, li_20033, li_20038, li_20124, li_32767, li_65535, li_1103515245, li_12345, li_m, sx_grd, sx_clamp, nI_add, sx_sub, pk_mul, sx_le, sx_lt, sx_eq, sx_eqm, sx_meq, sx_lem, sx_mle, sx_ltm, sx_mlt, sx_addm, sx_shl, sx_bit1, sx_bit0, fa_or, uA_s, uA_n, sA_s, sA_n, sx_uA, sx_uAn, sx_sAs, pk_us, pk_un, if_true, if_false, if_pos, if_neg, ob_some, Nat.add_zero, Nat.add_sub_cancel, eq_self, ne_eq, not_true, not_false_iff, false_or, true_or, or_false, or_true, false_and, true_and, and_false, and_true, rowf_00, rowf_01, rowf_2, rowf_14, rowf_26, rowf_38, rowf_50, rowf_62, rowf_74, rowf_u00, rowf_u01, rowf_u2, rowf_u14, rowf_u26, rowf_u38, rowf_u50, rowf_u62, rowf_u74, y1 0 (by omega) (by omega), x0, x1, hs]
      refine RT.done hQ ⟨_, rfl, ⟨?_, ?_⟩, fun p hp => ?_, fun k hk => ?_⟩
      · simp (disch := omega) only [bnd_nr, li_0, li_1, li_2, li_3, li_4, li_5, li_6, li_7, li_8, li_9, li_10, li_11, li_12, li_13, li_14, li_15, li_16, li_17, li_18, li_19, li_20, li_21, li_22, li_23, li_24, li_25, li_26, li_27, li_28, li_29, li_30, li_31, li_32, li_33, li_34, li_35, li_36, li_37, li_38, li_39, li_40, li_41, li_42, li_43, li_44, li_45, li_46, li_47, li_48, li_49, li_50, li_51, li_52, li_53, li_54, li_55, li_56, li_57, li_58, li_59, li_60, li_61, li_62, li_63, li_64, li_74, li_86, li_87, li_88, li_96, li_97, li_98, li_99, li_100, li_101, li_102, li_103, li_104, li_105, li_107, li_108, li_109, li_110, li_111, li_112, li_114, li_115, li_116, li_117, li_118, li_121, li_122, li_124, li_136, li_148, li_160, li_680, li_200, li_201, li_255, li_700, li_950, li_1000, li_1400, li_3440, li_4096, li_9999, li_10000, li_20000, li_20033, li_20038, li_20124, li_32767, li_65535, li_1103515245, li_12345, li_m, sx_grd, sx_clamp, nI_add, sx_sub, pk_mul, sx_le, sx_lt, sx_eq, sx_eqm, sx_meq, sx_lem, sx_mle, sx_ltm, sx_mlt, sx_addm, sx_shl, sx_bit1, sx_bit0, fa_or, uA_s, uA_n, sA_s, sA_n, sx_uA, sx_uAn, sx_sAs, pk_us, pk_un, if_true, if_false, if_pos, if_neg, ob_some, Nat.add_zero, Nat.add_sub_cancel, eq_self, ne_eq, not_true, not_false_iff, false_or, true_or, or_false, or_true, false_and, true_and, and_false, and_true]; rfl
      · simp (disch := omega) only [bnd_nr, li_0, li_1, li_2, li_3, li_4, li_5, li_6, li_7, li_8, li_9, li_10, li_11, li_12, li_13, li_14, li_15, li_16, li_17, li_18, li_19, li_20, li_21, li_22, li_23, li_24, li_25, li_26, li_27, li_28, li_29, li_30, li_31, li_32, li_33, li_34, li_35, li_36, li_37, li_38, li_39, li_40, li_41, li_42, li_43, li_44, li_45, li_46, li_47, li_48, li_49, li_50, li_51, li_52, li_53, li_54, li_55, li_56, li_57, li_58, li_59, li_60, li_61, li_62, li_63, li_64, li_74, li_86, li_87, li_88, li_96, li_97, li_98, li_99, li_100, li_101, li_102, li_103, li_104, li_105, li_107, li_108, li_109, li_110, li_111, li_112, li_114, li_115, li_116, li_117, li_118, li_121, li_122, li_124, li_136, li_148, li_160, li_680, li_200, li_201, li_255, li_700, li_950, li_1000, li_1400, li_3440, li_4096, li_9999, li_10000, li_20000, li_20033, li_20038, li_20124, li_32767, li_65535, li_1103515245, li_12345, li_m, sx_grd, sx_clamp, nI_add, sx_sub, pk_mul, sx_le, sx_lt, sx_eq, sx_eqm, sx_meq, sx_lem, sx_mle, sx_ltm, sx_mlt, sx_addm, sx_shl, sx_bit1, sx_bit0, fa_or, uA_s, uA_n, sA_s, sA_n, sx_uA, sx_uAn, sx_sAs, pk_us, pk_un, if_true, if_false, if_pos, if_neg, ob_some, Nat.add_zero, Nat.add_sub_cancel, eq_self, ne_eq, not_true, not_false_iff, false_or, true_or, or_false, or_true, false_and, true_and, and_false, and_true]
        show _ = nI (nx (goV G V) (vh (goV G V)))
        rw [sv]
      · simp (disch := omega) only [bnd_nr, li_0, li_1, li_2, li_3, li_4, li_5, li_6, li_7, li_8, li_9, li_10, li_11, li_12, li_13, li_14, li_15, li_16, li_17, li_18, li_19, li_20, li_21, li_22, li_23, li_24, li_25, li_26, li_27, li_28, li_29, li_30, li_31, li_32, li_33, li_34, li_35, li_36, li_37, li_38, li_39, li_40, li_41, li_42, li_43, li_44, li_45, li_46, li_47, li_48, li_49, li_50, li_51, li_52, li_53, li_54, li_55, li_56, li_57, li_58, li_59, li_60, li_61, li_62, li_63, li_64, li_74, li_86, li_87, li_88, li_96, li_97, li_98, li_99, li_100, li_101, li_102, li_103, li_104, li_105, li_107, li_108, li_109, li_110, li_111, li_112, li_114, li_115, li_116, li_117, li_118, li_121, li_122, li_124, li_136, li_148, li_160, li_680, li_200, li_201, li_255, li_700, li_950, li_1000, li_1400, li_3440, li_4096, li_9999, li_10000, li_20000, li_20033, li_20038, li_20124, li_32767, li_65535, li_1103515245, li_12345, li_m, sx_grd, sx_clamp, nI_add, sx_sub, pk_mul, sx_le, sx_lt, sx_eq, sx_eqm, sx_meq, sx_lem, sx_mle, sx_ltm, sx_mlt, sx_addm, sx_shl, sx_bit1, sx_bit0, fa_or, uA_s, uA_n, sA_s, sA_n, sx_uA, sx_uAn, sx_sAs, pk_us, pk_un, if_true, if_false, if_pos, if_neg, ob_some, Nat.add_zero, Nat.add_sub_cancel, eq_self, ne_eq, not_true, not_false_iff, false_or, true_or, or_false, or_true, false_and, true_and, and_false, and_true]
        exact pic p hp
      · have hk : k < nx (goV G V) (vh (goV G V)) := hk
        rw [sv] at hk
        simp (disch := omega) only [bnd_nr, li_0, li_1, li_2, li_3, li_4, li_5, li_6, li_7, li_8, li_9, li_10, li_11, li_12, li_13, li_14, li_15, li_16, li_17, li_18, li_19, li_20, li_21, li_22, li_23, li_24, li_25, li_26, li_27, li_28, li_29, li_30, li_31, li_32, li_33, li_34, li_35, li_36, li_37, li_38, li_39, li_40, li_41, li_42, li_43, li_44, li_45, li_46, li_47, li_48, li_49, li_50, li_51, li_52, li_53, li_54, li_55, li_56, li_57, li_58, li_59, li_60, li_61, li_62, li_63, li_64, li_74, li_86, li_87, li_88, li_96, li_97, li_98, li_99, li_100, li_101, li_102, li_103, li_104, li_105, li_107, li_108, li_109, li_110, li_111, li_112, li_114, li_115, li_116, li_117, li_118, li_121, li_122, li_124, li_136, li_148, li_160, li_680, li_200, li_201, li_255, li_700, li_950, li_1000, li_1400, li_3440, li_4096, li_9999, li_10000, li_20000, li_20033, li_20038, li_20124, li_32767, li_65535, li_1103515245, li_12345, li_m, sx_grd, sx_clamp, nI_add, sx_sub, pk_mul, sx_le, sx_lt, sx_eq, sx_eqm, sx_meq, sx_lem, sx_mle, sx_ltm, sx_mlt, sx_addm, sx_shl, sx_bit1, sx_bit0, fa_or, uA_s, uA_n, sA_s, sA_n, sx_uA, sx_uAn, sx_sAs, pk_us, pk_un, if_true, if_false, if_pos, if_neg, ob_some, Nat.add_zero, Nat.add_sub_cancel, eq_self, ne_eq, not_true, not_false_iff, false_or, true_or, or_false, or_true, false_and, true_and, and_false, and_true]
        show _ = nI (ol (goV G V) (kt (ne (goV G V)) (vh (goV G V)) k)) ∧ _ = idd (goV G V) (kt (ne (goV G V)) (vh (goV G V)) k)
        have sg : vh (goV G V) = vh V + 1 := by show vh V + anyG G V = _; rw [a1]
        by_cases d : k = nx (goV G V) (vh V)
        · subst d
          rw [pk_us, pk_us, show nx (goV G V) (vh V) = fb_ct (ne (goV G V)) (vh V) from rfl, kt_ct (by omega) nev]
          show _ = nI (if vh V < vh V then ol V (vh V) + 1 else 0) ∧ _ = (if vh V < vh V then idd V (vh V) else -1)
          rw [if_neg (by omega), if_neg (by omega)]
          exact ⟨rfl, rfl⟩
        · rw [pk_un d, pk_un d]
          obtain ⟨a, a2, a3, a4, a5, a6⟩ := old k (by omega)
          rw [a5, a6, ← a4, show nx (goV G V) a = fb_ct (ne (goV G V)) a from rfl, kt_ct (by omega) a3]
          show _ = nI (if a < vh V then ol V a + 1 else 0) ∧ _ = (if a < vh V then idd V a else -1)
          rw [if_pos a2, if_pos a2]
          exact ⟨rfl, rfl⟩
    · have a1 : anyG G V = 0 := if_neg any
      have sg : vh (goV G V) = vh V := by show vh V + anyG G V = _; rw [a1]; rfl
      simp (disch := omega) only [bnd_nr, li_0, li_1, li_2, li_3, li_4, li_5, li_6, li_7, li_8, li_9, li_10, li_11, li_12, li_13, li_14, li_15, li_16, li_17, li_18, li_19, li_20, li_21, li_22, li_23, li_24, li_25, li_26, li_27, li_28, li_29, li_30, li_31, li_32, li_33, li_34, li_35, li_36, li_37, li_38, li_39, li_40, li_41, li_42, li_43, li_44, li_45, li_46, li_47, li_48, li_49, li_50, li_51, li_52, li_53, li_54, li_55, li_56, li_57, li_58, li_59, li_60, li_61, li_62, li_63, li_64, li_74, li_86, li_87, li_88, li_96, li_97, li_98, li_99, li_100, li_101, li_102, li_103, li_104, li_105, li_107, li_108, li_109, li_110, li_111, li_112, li_114, li_115, li_116, li_117, li_118, li_121, li_122, li_124, li_136, li_148, li_160, li_680, li_200, li_201, li_255, li_700, li_950, li_1000, li_1400, li_3440, li_4096, li_9999, li_10000, li_20000, li_20033, li_20038, li_20124, li_32767, li_65535, li_1103515245, li_12345, li_m, sx_grd, sx_clamp, nI_add, sx_sub, pk_mul, sx_le, sx_lt, sx_eq, sx_eqm, sx_meq, sx_lem, sx_mle, sx_ltm, sx_mlt, sx_addm, sx_shl, sx_bit1, sx_bit0, fa_or, uA_s, uA_n, sA_s, sA_n, sx_uA, sx_uAn, sx_sAs, pk_us, pk_un, if_true, if_false, if_pos, if_neg, ob_some, Nat.add_zero, Nat.add_sub_cancel, eq_self, ne_eq, not_true, not_false_iff, false_or, true_or, or_false, or_true, false_and, true_and, and_false, and_true, rowf_00, rowf_01, rowf_2, rowf_14, rowf_26, rowf_38, rowf_50, rowf_62, rowf_74, rowf_u00, rowf_u01, rowf_u2, rowf_u14, rowf_u26, rowf_u38, rowf_u50, rowf_u62, rowf_u74, y1 0 (by omega) (by omega), x0, x1, hs]
      refine RT.done hQ ⟨_, rfl, ⟨?_, ?_⟩, fun p hp => ?_, fun k hk => ?_⟩
      · simp (disch := omega) only [bnd_nr, li_0, li_1, li_2, li_3, li_4, li_5, li_6, li_7, li_8, li_9, li_10, li_11, li_12, li_13, li_14, li_15, li_16, li_17, li_18, li_19, li_20, li_21, li_22, li_23, li_24, li_25, li_26, li_27, li_28, li_29, li_30, li_31, li_32, li_33, li_34, li_35, li_36, li_37, li_38, li_39, li_40, li_41, li_42, li_43, li_44, li_45, li_46, li_47, li_48, li_49, li_50, li_51, li_52, li_53, li_54, li_55, li_56, li_57, li_58, li_59, li_60, li_61, li_62, li_63, li_64, li_74, li_86, li_87, li_88, li_96, li_97, li_98, li_99, li_100, li_101, li_102, li_103, li_104, li_105, li_107, li_108, li_109, li_110, li_111, li_112, li_114, li_115, li_116, li_117, li_118, li_121, li_122, li_124, li_136, li_148, li_160, li_680, li_200, li_201, li_255, li_700, li_950, li_1000, li_1400, li_3440, li_4096, li_9999, li_10000, li_20000, li_20033, li_20038, li_20124, li_32767, li_65535, li_1103515245, li_12345, li_m, sx_grd, sx_clamp, nI_add, sx_sub, pk_mul, sx_le, sx_lt, sx_eq, sx_eqm, sx_meq, sx_lem, sx_mle, sx_ltm, sx_mlt, sx_addm, sx_shl, sx_bit1, sx_bit0, fa_or, uA_s, uA_n, sA_s, sA_n, sx_uA, sx_uAn, sx_sAs, pk_us, pk_un, if_true, if_false, if_pos, if_neg, ob_some, Nat.add_zero, Nat.add_sub_cancel, eq_self, ne_eq, not_true, not_false_iff, false_or, true_or, or_false, or_true, false_and, true_and, and_false, and_true]; rfl
      · simp (disch := omega) only [bnd_nr, li_0, li_1, li_2, li_3, li_4, li_5, li_6, li_7, li_8, li_9, li_10, li_11, li_12, li_13, li_14, li_15, li_16, li_17, li_18, li_19, li_20, li_21, li_22, li_23, li_24, li_25, li_26, li_27, li_28, li_29, li_30, li_31, li_32, li_33, li_34, li_35, li_36, li_37, li_38, li_39, li_40, li_41, li_42, li_43, li_44, li_45, li_46, li_47, li_48, li_49, li_50, li_51, li_52, li_53, li_54, li_55, li_56, li_57, li_58, li_59, li_60, li_61, li_62, li_63, li_64, li_74, li_86, li_87, li_88, li_96, li_97, li_98, li_99, li_100, li_101, li_102, li_103, li_104, li_105, li_107, li_108, li_109, li_110, li_111, li_112, li_114, li_115, li_116, li_117, li_118, li_121, li_122, li_124, li_136, li_148, li_160, li_680, li_200, li_201, li_255, li_700, li_950, li_1000, li_1400, li_3440, li_4096, li_9999, li_10000, li_20000, li_20033, li_20038, li_20124, li_32767, li_65535, li_1103515245, li_12345, li_m, sx_grd, sx_clamp, nI_add, sx_sub, pk_mul, sx_le, sx_lt, sx_eq, sx_eqm, sx_meq, sx_lem, sx_mle, sx_ltm, sx_mlt, sx_addm, sx_shl, sx_bit1, sx_bit0, fa_or, uA_s, uA_n, sA_s, sA_n, sx_uA, sx_uAn, sx_sAs, pk_us, pk_un, if_true, if_false, if_pos, if_neg, ob_some, Nat.add_zero, Nat.add_sub_cancel, eq_self, ne_eq, not_true, not_false_iff, false_or, true_or, or_false, or_true, false_and, true_and, and_false, and_true, y1 0 (by omega) (by omega), x1]
        show _ = nI (nx (goV G V) (vh (goV G V)))
        rw [sg]
      · simp (disch := omega) only [bnd_nr, li_0, li_1, li_2, li_3, li_4, li_5, li_6, li_7, li_8, li_9, li_10, li_11, li_12, li_13, li_14, li_15, li_16, li_17, li_18, li_19, li_20, li_21, li_22, li_23, li_24, li_25, li_26, li_27, li_28, li_29, li_30, li_31, li_32, li_33, li_34, li_35, li_36, li_37, li_38, li_39, li_40, li_41, li_42, li_43, li_44, li_45, li_46, li_47, li_48, li_49, li_50, li_51, li_52, li_53, li_54, li_55, li_56, li_57, li_58, li_59, li_60, li_61, li_62, li_63, li_64, li_74, li_86, li_87, li_88, li_96, li_97, li_98, li_99, li_100, li_101, li_102, li_103, li_104, li_105, li_107, li_108, li_109, li_110, li_111, li_112, li_114, li_115, li_116, li_117, li_118, li_121, li_122, li_124, li_136, li_148, li_160, li_680, li_200, li_201, li_255, li_700, li_950, li_1000, li_1400, li_3440, li_4096, li_9999, li_10000, li_20000, li_20033, li_20038, li_20124, li_32767, li_65535, li_1103515245, li_12345, li_m, sx_grd, sx_clamp, nI_add, sx_sub, pk_mul, sx_le, sx_lt, sx_eq, sx_eqm, sx_meq, sx_lem, sx_mle, sx_ltm, sx_mlt, sx_addm, sx_shl, sx_bit1, sx_bit0, fa_or, uA_s, uA_n, sA_s, sA_n, sx_uA, sx_uAn, sx_sAs, pk_us, pk_un, if_true, if_false, if_pos, if_neg, ob_some, Nat.add_zero, Nat.add_sub_cancel, eq_self, ne_eq, not_true, not_false_iff, false_or, true_or, or_false, or_true, false_and, true_and, and_false, and_true]
        exact pic p hp
      · have hk : k < nx (goV G V) (vh (goV G V)) := hk
        rw [sg] at hk
        simp (disch := omega) only [bnd_nr, li_0, li_1, li_2, li_3, li_4, li_5, li_6, li_7, li_8, li_9, li_10, li_11, li_12, li_13, li_14, li_15, li_16, li_17, li_18, li_19, li_20, li_21, li_22, li_23, li_24, li_25, li_26, li_27, li_28, li_29, li_30, li_31, li_32, li_33, li_34, li_35, li_36, li_37, li_38, li_39, li_40, li_41, li_42, li_43, li_44, li_45, li_46, li_47, li_48, li_49, li_50, li_51, li_52, li_53, li_54, li_55, li_56, li_57, li_58, li_59, li_60, li_61, li_62, li_63, li_64, li_74, li_86, li_87, li_88, li_96, li_97, li_98, li_99, li_100, li_101, li_102, li_103, li_104, li_105, li_107, li_108, li_109, li_110, li_111, li_112, li_114, li_115, li_116, li_117, li_118, li_121, li_122, li_124, li_136, li_148, li_160, li_680, li_200, li_201, li_255, li_700, li_950, li_1000, li_1400, li_3440, li_4096, li_9999, li_10000, li_20000, li_20033, li_20038, li_20124, li_32767, li_65535, li_1103515245, li_12345, li_m, sx_grd, sx_clamp, nI_add, sx_sub, pk_mul, sx_le, sx_lt, sx_eq, sx_eqm, sx_meq, sx_lem, sx_mle, sx_ltm, sx_mlt, sx_addm, sx_shl, sx_bit1, sx_bit0, fa_or, uA_s, uA_n, sA_s, sA_n, sx_uA, sx_uAn, sx_sAs, pk_us, pk_un, if_true, if_false, if_pos, if_neg, ob_some, Nat.add_zero, Nat.add_sub_cancel, eq_self, ne_eq, not_true, not_false_iff, false_or, true_or, or_false, or_true, false_and, true_and, and_false, and_true]
        show _ = nI (ol (goV G V) (kt (ne (goV G V)) (vh (goV G V)) k)) ∧ _ = idd (goV G V) (kt (ne (goV G V)) (vh (goV G V)) k)
        obtain ⟨a, a2, a3, a4, a5, a6⟩ := old k hk
        rw [a5, a6, ← a4, show nx (goV G V) a = fb_ct (ne (goV G V)) a from rfl, kt_ct (by omega) a3]
        show _ = nI (if a < vh V then ol V a + 1 else 0) ∧ _ = (if a < vh V then idd V a else -1)
        rw [if_pos a2, if_pos a2]
        exact ⟨rfl, rfl⟩
  · intro n h l3 z hh ⟨e1, Y, e2, y1, y2⟩ hk; subst e1; subst e2
    show RT (f_X12_eveningGoes_L215 (nI b) (nI (vh V)) (n + 1) _ (nI h) _) _
    have c1 := cl h
    unfold f_X12_eveningGoes_L215
    rcases hL h hh with ⟨e, no⟩ | ⟨x, z1, z2, z3, z4⟩
    · simp (disch := omega) only [bnd_nr, li_0, li_1, li_2, li_3, li_4, li_5, li_6, li_7, li_8, li_9, li_10, li_11, li_12, li_13, li_14, li_15, li_16, li_17, li_18, li_19, li_20, li_21, li_22, li_23, li_24, li_25, li_26, li_27, li_28, li_29, li_30, li_31, li_32, li_33, li_34, li_35, li_36, li_37, li_38, li_39, li_40, li_41, li_42, li_43, li_44, li_45, li_46, li_47, li_48, li_49, li_50, li_51, li_52, li_53, li_54, li_55, li_56, li_57, li_58, li_59, li_60, li_61, li_62, li_63, li_64, li_74, li_86, li_87, li_88, li_96, li_97, li_98, li_99, li_100, li_101, li_102, li_103, li_104, li_105, li_107, li_108, li_109, li_110, li_111, li_112, li_114, li_115, li_116, li_117, li_118, li_121, li_122, li_124, li_136, li_148, li_160, li_680, li_200, li_201, li_255, li_700, li_950, li_1000, li_1400, li_3440, li_4096, li_9999, li_10000, li_20000, li_20033, li_20038, li_20124, li_32767, li_65535, li_1103515245, li_12345, li_m, sx_grd, sx_clamp, nI_add, sx_sub, pk_mul, sx_le, sx_lt, sx_eq, sx_eqm, sx_meq, sx_lem, sx_mle, sx_ltm, sx_mlt, sx_addm, sx_shl, sx_bit1, sx_bit0, fa_or, uA_s, uA_n, sA_s, sA_n, sx_uA, sx_uAn, sx_sAs, pk_us, pk_un, if_true, if_false, if_pos, if_neg, ob_some, Nat.add_zero, Nat.add_sub_cancel, eq_self, ne_eq, not_true, not_false_iff, false_or, true_or, or_false, or_true, false_and, true_and, and_false, and_true, rowf_00, rowf_01, rowf_2, rowf_14, rowf_26, rowf_38, rowf_50, rowf_62, rowf_74, rowf_u00, rowf_u01, rowf_u2, rowf_u14, rowf_u26, rowf_u38, rowf_u50, rowf_u62, rowf_u74, e]
      refine hk _ _ ⟨by rw [ct_no (no_hg no)], Y, rfl, y1, fun p hp => ?_⟩
      have ee : (G p && decide (ho V p < h + 1)) = (G p && decide (ho V p < h)) := by
        cases d2 : G p
        · rfl
        · have : ho V p ≠ h := fun z => by rw [no p hp z] at d2; cases d2
          rw [Bool.true_and, Bool.true_and]
          exact decide_eq_decide.mpr (by omega)
      rw [ee]; exact y2 p hp
    · have hgx : hg G V h = true := hg_iff.mpr ⟨x, z1, z3, z4⟩
      simp (disch := omega) only [bnd_nr, li_0, li_1, li_2, li_3, li_4, li_5, li_6, li_7, li_8, li_9, li_10, li_11, li_12, li_13, li_14, li_15, li_16, li_17, li_18, li_19, li_20, li_21, li_22, li_23, li_24, li_25, li_26, li_27, li_28, li_29, li_30, li_31, li_32, li_33, li_34, li_35, li_36, li_37, li_38, li_39, li_40, li_41, li_42, li_43, li_44, li_45, li_46, li_47, li_48, li_49, li_50, li_51, li_52, li_53, li_54, li_55, li_56, li_57, li_58, li_59, li_60, li_61, li_62, li_63, li_64, li_74, li_86, li_87, li_88, li_96, li_97, li_98, li_99, li_100, li_101, li_102, li_103, li_104, li_105, li_107, li_108, li_109, li_110, li_111, li_112, li_114, li_115, li_116, li_117, li_118, li_121, li_122, li_124, li_136, li_148, li_160, li_680, li_200, li_201, li_255, li_700, li_950, li_1000, li_1400, li_3440, li_4096, li_9999, li_10000, li_20000, li_20033, li_20038, li_20124, li_32767, li_65535, li_1103515245, li_12345, li_m, sx_grd, sx_clamp, nI_add, sx_sub, pk_mul, sx_le, sx_lt, sx_eq, sx_eqm, sx_meq, sx_lem, sx_mle, sx_ltm, sx_mlt, sx_addm, sx_shl, sx_bit1, sx_bit0, fa_or, uA_s, uA_n, sA_s, sA_n, sx_uA, sx_uAn, sx_sAs, pk_us, pk_un, if_true, if_false, if_pos, if_neg, ob_some, Nat.add_zero, Nat.add_sub_cancel, eq_self, ne_eq, not_true, not_false_iff, false_or, true_or, or_false, or_true, false_and, true_and, and_false, and_true, rowf_00, rowf_01, rowf_2, rowf_14, rowf_26, rowf_38, rowf_50, rowf_62, rowf_74, rowf_u00, rowf_u01, rowf_u2, rowf_u14, rowf_u26, rowf_u38, rowf_u50, rowf_u62, rowf_u74, z2, y1 0 (by omega) (by omega), x1]
      refine hk _ _ ⟨by rw [ct_yes hgx], _, rfl, fun j j1 j2 => by rw [uA_n j2, uA_n j1]; exact y1 j j1 j2, fun p hp => ?_⟩
      simp (disch := omega) only [bnd_nr, li_0, li_1, li_2, li_3, li_4, li_5, li_6, li_7, li_8, li_9, li_10, li_11, li_12, li_13, li_14, li_15, li_16, li_17, li_18, li_19, li_20, li_21, li_22, li_23, li_24, li_25, li_26, li_27, li_28, li_29, li_30, li_31, li_32, li_33, li_34, li_35, li_36, li_37, li_38, li_39, li_40, li_41, li_42, li_43, li_44, li_45, li_46, li_47, li_48, li_49, li_50, li_51, li_52, li_53, li_54, li_55, li_56, li_57, li_58, li_59, li_60, li_61, li_62, li_63, li_64, li_74, li_86, li_87, li_88, li_96, li_97, li_98, li_99, li_100, li_101, li_102, li_103, li_104, li_105, li_107, li_108, li_109, li_110, li_111, li_112, li_114, li_115, li_116, li_117, li_118, li_121, li_122, li_124, li_136, li_148, li_160, li_680, li_200, li_201, li_255, li_700, li_950, li_1000, li_1400, li_3440, li_4096, li_9999, li_10000, li_20000, li_20033, li_20038, li_20124, li_32767, li_65535, li_1103515245, li_12345, li_m, sx_grd, sx_clamp, nI_add, sx_sub, pk_mul, sx_le, sx_lt, sx_eq, sx_eqm, sx_meq, sx_lem, sx_mle, sx_ltm, sx_mlt, sx_addm, sx_shl, sx_bit1, sx_bit0, fa_or, uA_s, uA_n, sA_s, sA_n, sx_uA, sx_uAn, sx_sAs, pk_us, pk_un, if_true, if_false, if_pos, if_neg, ob_some, Nat.add_zero, Nat.add_sub_cancel, eq_self, ne_eq, not_true, not_false_iff, false_or, true_or, or_false, or_true, false_and, true_and, and_false, and_true]
      by_cases d : p = x
      · subst d
        rw [pk_us, pk_us, z4, z3, decide_eq_true (show h < h + 1 by omega)]
        exact ⟨rfl, rfl⟩
      · rw [pk_un d, pk_un d]
        have ee : (G p && decide (ho V p < h + 1)) = (G p && decide (ho V p < h)) := by
          cases d2 : G p
          · rfl
          · have : ho V p ≠ h := fun z => d (g p x hp z1 d2 z4 (by rw [z, z3]))
            rw [Bool.true_and, Bool.true_and]
            exact decide_eq_decide.mpr (by omega)
        rw [ee]; exact y2 p hp
