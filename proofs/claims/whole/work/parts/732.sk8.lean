theorem sV_5 {x : Nat → Ob} {y : Ob} (j : Nat) (h : j ≠ 0) : sV (sV (sV (sV (sV x 0 y) 9 (x 9)) 10 (x 10)) 11 (x 11)) 14 (x 14) j = x j := by
  by_cases e : j = 14
  · rw [e, sV_s]
  · rw [sV_n e]
    by_cases e : j = 11
    · rw [e, sV_s]
    · rw [sV_n e]
      by_cases e : j = 10
      · rw [e, sV_s]
      · rw [sV_n e]
        by_cases e : j = 9
        · rw [e, sV_s]
        · rw [sV_n e, sV_n h]
theorem sV_i {x : Nat → Ob} {i : Nat} (j : Nat) : sV x i (x i) j = x j := by
  by_cases e : j = i
  · rw [e, sV_s]
  · rw [sV_n e]
theorem m_evs {M : MS} {E : RE} {V : VT} (v : VM M 0 V) (w : WFV V) (ec : EC E M) (k : EOK E) {n : Nat} (hn : n ≤ 20) (he : ve V + n ≤ 20000) : RT (f_X12_evenings_L41 (nI n) FUEL (nI 0) M) (fun q => q.1 = nI (ve V + n) ∧ (∀ k, k ≠ 41 → q.2.1 k = M.1 k) ∧ (∀ j, j ≠ 10 → j ≠ 12 → j ≠ 13 → j ≠ 14 → q.2.2.2 j = M.2.2 j) ∧ VM q.2 0 (It E V n)) := by
  refine RT.cps (fun Q hQ => ?_)
  refine RT.loop0 (fun m i (z : MS) => f_X12_evenings_L41 (nI n) m (nI i) z) n (fun i z => (∀ k, k ≠ 41 → z.1 k = M.1 k) ∧ (∀ j, j ≠ 10 → j ≠ 12 → j ≠ 13 → j ≠ 14 → z.2.2 j = M.2.2 j) ∧ VM z 0 (It E V i)) Q M (by omega) ⟨fun _ _ => rfl, fun _ _ _ _ _ => rfl, v⟩ ?_ ?_
  · intro m z ⟨z1, z2, z3⟩
    show RT (f_X12_evenings_L41 (nI n) (m + 1) (nI n) z) Q
    unfold f_X12_evenings_L41
    refine RT.itT (show nI n ≤ nI n from nI_le (Nat.le_refl _) (by omega)) (RT.grd (by decide) (RT.done hQ ⟨?_, z1, z2, z3⟩))
    have e := (It_wf (E := E) (V := V) w n he).2.1
    show z.2.2 10 (0 + 0) = _
    rw [← e]; exact z3.2.1.1
  · intro m i z hi ⟨z1, z2, z3⟩ hk
    show RT (f_X12_evenings_L41 (nI n) (m + 1) (nI i) z) Q
    unfold f_X12_evenings_L41
    refine RT.itF (show ¬ nI n ≤ nI i from nI_ge hi (by omega)) ?_
    obtain ⟨wi, ei, ni⟩ := It_wf (E := E) (V := V) w i (by omega)
    have ez : EC E z := by
      unfold EC at ec ⊢
      rw [z1 3 (by omega), z1 4 (by omega), z1 39 (by omega), z1 40 (by omega)]
      exact ⟨RMo_of (z2 2 (by omega) (by omega) (by omega) (by omega)) ec.1, RMo_of (z2 2 (by omega) (by omega) (by omega) (by omega)) ec.2.1, ec.2.2⟩
    refine RT.bind (m_ev0 z3 wi ez k (by omega)) (fun r ⟨r1, _, r2, r3⟩ => ?_)
    rw [bnd_nr, nI_1]
    exact hk _ ⟨fun k hk => (r1 k hk).trans (z1 k hk), fun j a b c d => (r2 j a b c d).trans (z2 j a b c d), r3⟩
section SKS
variable {V : VT} {E : RE} {F : FD} {S : SN} {A : AC} {IB : Bool} {I : IG} {T : Nat → Nat} {k : Nat} {z : LZ} {ar : Nat → Int32}
theorem g_evenings (h : IV V E F S A IB I T k z) : GD SK_evenings z ar := by
  have h9 := h
  obtain ⟨pu, ⟨N, wc⟩, kx, mX, mi⟩ := h9
  have cw := pu.1
  have fok := pu.2.1
  have sok := pu.2.2.1
  have n12 := cw.1.1.1.1
  have h12 := Nat.le_trans cw.1.hn n12
  have e9 := cw.2.1
  obtain ⟨n1, n2, n3⟩ := wc.n
  have c0 := wc.c0
  have f0 : 0 < z.1.2.2.2.1.1 := by omega
  have m1 := mX.u0 (x := nI 0)
  have wi := wc.id (f := nI)
  have ci := cw.id
  have c0i := wi.c0
  have d0 : z.2.1.2.2 10 0 = nI (ve V) := mX.1.2.1.1
  rcases Classical.em (∃ e, 1 ≤ e ∧ e ≤ 20 ∧ ar 1 = nI e) with ⟨e, le, he, ee⟩ | b1
  · have mw := mw_ok (i := e) (a := 1) (n := 20) le he (by omega)
    rcases Classical.em (ve V + e ≤ 9999) with hv | hv
    · have aok := pu.2.2.2.1
      obtain ⟨t, et, ta, kB⟩ := c_keep (v0 := z.1.2.2.2.1.2.2 0) kx.2.2.1 aok.1 c0 cw.1.1 rfl
      rw [← kB] at et
      obtain ⟨r, er, r1, r2, r3⟩ := m_keep m1.2.2.2.2.1 aok m1.1 cw.1
      have vr : VM r 0 V := ⟨(r1 1 (by omega)).trans m1.1.1, RW_of (r2 10 (by omega)).symm m1.1.2⟩
      have tB : z.1.2.2.2.2.1.1 ≤ t.2.1 := by omega
      obtain ⟨q, eq, q1, q2, q3⟩ := c_beh (D := z.1.1 9) (K := z.1.1 12) wc cw (e := e) (by omega)
      have qn := q2.n.1
      obtain ⟨wt, ew, nt⟩ := It_wf (E := E) (V := V) cw.1 e (by omega)
      obtain ⟨g, eg, gv⟩ := c_copyFrom (v := q.2.2.2.2.2.2.2 0) q3 wt.1
      have er0 : EC E r := by
        have h2 := m1.2.1
        unfold EC at h2 ⊢
        rw [r1 3 (by omega), r1 4 (by omega), r1 39 (by omega), r1 40 (by omega)]
        exact ⟨RMo_of (r2 2 (by omega)) h2.1, RMo_of (r2 2 (by omega)) h2.2.1, h2.2.2⟩
      obtain ⟨y, ey, y0, y1, y2, y3⟩ := m_evs (n := e) vr cw.1 er0 cw.2.2 he (by omega)
      have g9 : g.1 2 = nI (ve V + e) := by rw [← ew]; exact gv.1.2.2
      have hf : FRm ((upd z.2.1.1 0 (nI 0), z.2.1.2) : MS) y.2 := ⟨fun k a b => (y1 k b).trans (r1 k a), fun j a b c d f => (y2 j a c d f).trans (r2 j b)⟩
      have hm : AMr (y.2.1 36) (y.2.2.2 11) (kA A V) := by
        rw [y1 36 (by omega), y2 11 (by omega) (by omega) (by omega) (by omega)]; exact r3
      have ea : f_X11_evenings (z.1.1 0) z.1.2.2.1 (z.1.1 9) (z.1.1 10) (z.1.1 11) (z.1.1 12) z.1.2.2.2.1 (z.1.1 14) z.1.2.2.2.2.1 (max N (e + 1)) t.2.1 (ar 1) = some (nI (ve V + e), z.1.1 0, ((upd q.2.1.1 6 (nI 0), q.2.1.2) : CS), q.2.2.1, q.2.2.2.1, q.2.2.2.2.1, ((q.2.2.2.2.2.1, q.2.2.2.2.2.2.1, sV q.2.2.2.2.2.2.2 0 g) : FS), t.1, t.2) := by
        rw [ee]
        simp (disch := omega) only [f_X11_evenings, f_X11_evenings_J26, bnd_nr, li_0, li_1, li_2, li_3, li_4, li_5, li_6, li_7, li_8, li_9, li_10, li_11, li_12, li_13, li_14, li_15, li_16, li_17, li_18, li_19, li_20, li_21, li_22, li_23, li_24, li_25, li_26, li_27, li_28, li_29, li_30, li_31, li_32, li_33, li_34, li_35, li_36, li_37, li_38, li_39, li_40, li_41, li_42, li_43, li_44, li_45, li_46, li_47, li_48, li_49, li_50, li_51, li_52, li_53, li_54, li_55, li_56, li_57, li_58, li_59, li_60, li_61, li_62, li_63, li_64, li_74, li_86, li_87, li_88, li_96, li_97, li_98, li_99, li_100, li_101, li_102, li_103, li_104, li_105, li_107, li_108, li_109, li_110, li_111, li_112, li_114, li_115, li_116, li_117, li_118, li_121, li_122, li_124, li_136, li_148, li_160, li_680, li_200, li_201, li_255, li_700, li_950, li_1000, li_1400, li_3440, li_4096, li_9999, li_10000, li_20000, li_20033, li_20038, li_20124, li_32767, li_65535, li_1103515245, li_12345, li_m, sx_grd, sx_clamp, nI_add, sx_sub, pk_mul, sx_le, sx_lt, sx_eq, sx_eqm, sx_meq, sx_lem, sx_mle, sx_ltm, sx_mlt, sx_addm, sx_shl, sx_bit1, sx_bit0, fa_or, uA_s, uA_n, sA_s, sA_n, sx_uA, sx_uAn, sx_sAs, pk_us, pk_un, if_true, if_false, if_pos, if_neg, ob_some, Nat.add_zero, Nat.add_sub_cancel, eq_self, ne_eq, not_true, not_false_iff, false_or, true_or, or_false, or_true, false_and, true_and, and_false, and_true, grd_d, c0.1.2.2, et, n1, eq, q1, qn, eg, c_chg, sV_s, g9]
      have em : f_X12_evenings z.2.1 (ar 1) = some (nI (ve V + e), y.2) := by
        rw [ee, ← y0]
        simp (disch := omega) only [f_X12_evenings, f_X12_evenings_J29, bnd_nr, li_0, li_1, li_2, li_3, li_4, li_5, li_6, li_7, li_8, li_9, li_10, li_11, li_12, li_13, li_14, li_15, li_16, li_17, li_18, li_19, li_20, li_21, li_22, li_23, li_24, li_25, li_26, li_27, li_28, li_29, li_30, li_31, li_32, li_33, li_34, li_35, li_36, li_37, li_38, li_39, li_40, li_41, li_42, li_43, li_44, li_45, li_46, li_47, li_48, li_49, li_50, li_51, li_52, li_53, li_54, li_55, li_56, li_57, li_58, li_59, li_60, li_61, li_62, li_63, li_64, li_74, li_86, li_87, li_88, li_96, li_97, li_98, li_99, li_100, li_101, li_102, li_103, li_104, li_105, li_107, li_108, li_109, li_110, li_111, li_112, li_114, li_115, li_116, li_117, li_118, li_121, li_122, li_124, li_136, li_148, li_160, li_680, li_200, li_201, li_255, li_700, li_950, li_1000, li_1400, li_3440, li_4096, li_9999, li_10000, li_20000, li_20033, li_20038, li_20124, li_32767, li_65535, li_1103515245, li_12345, li_m, sx_grd, sx_clamp, nI_add, sx_sub, pk_mul, sx_le, sx_lt, sx_eq, sx_eqm, sx_meq, sx_lem, sx_mle, sx_ltm, sx_mlt, sx_addm, sx_shl, sx_bit1, sx_bit0, fa_or, uA_s, uA_n, sA_s, sA_n, sx_uA, sx_uAn, sx_sAs, pk_us, pk_un, if_true, if_false, if_pos, if_neg, ob_some, Nat.add_zero, Nat.add_sub_cancel, eq_self, ne_eq, not_true, not_false_iff, false_or, true_or, or_false, or_true, false_and, true_and, and_false, and_true, mw, d0, er, ey]
      refine GD_a h (V' := It E V e) (A' := kA A V) (x' := sV (sV (sV (sV (sV z.1.1 0 (z.1.1 0)) 9 q.2.2.1) 10 q.2.2.2.1) 11 q.2.2.2.2.1) 14 t.1) (cs' := ((upd q.2.1.1 6 (nI 0), q.2.1.2) : CS)) (f1' := ((q.2.2.2.2.2.1, q.2.2.2.2.2.2.1, sV q.2.2.2.2.2.2.2 0 g) : FS)) (f2' := t.2) (M' := y.2) (o' := z.2.2) (N := max N (e + 1)) ⟨wt, by omega, nt⟩ (AOK_k aok cw.1 e9 rfl) (fun j hj => by rw [sV_n (by omega), sV_n (by omega), sV_n (by omega), sV_n (by omega), sV_i]) (by rw [sV_n (by omega), sV_n (by omega), sV_s, sV_n (by omega), sV_s]; exact WC_new q2 gv q2.2.1 q2.2.2) (by rw [sV_s]; exact ta) hf y3 hm (by show z.1.2.2.2.1.1 ≤ _; omega) tB ⟨(nI (ve V + e), z.1.1 0, ((upd q.2.1.1 6 (nI 0), q.2.1.2) : CS), q.2.2.1, q.2.2.2.1, q.2.2.2.2.1, ((q.2.2.2.2.2.1, q.2.2.2.2.2.2.1, sV q.2.2.2.2.2.2.2 0 g) : FS), t.1, t.2), (nI (ve V + e), y.2), ea, em, rfl, rfl⟩
    · have ea : f_X11_evenings (z.1.1 0) z.1.2.2.1 (z.1.1 9) (z.1.1 10) (z.1.1 11) (z.1.1 12) z.1.2.2.2.1 (z.1.1 14) z.1.2.2.2.2.1 (nf1 z) (nf2 z) (ar 1) = some (mO, ((z.1.1 0).1, uA (z.1.1 0).2 1 1 ((z.1.1 0).2 1 1 + nI 1)), z.1.2.2.1, z.1.1 9, z.1.1 10, z.1.1 11, z.1.2.2.2.1, z.1.1 14, z.1.2.2.2.2.1) := by
        rw [ee]
        simp (disch := omega) only [f_X11_evenings, f_X11_evenings_J26, bnd_nr, li_0, li_1, li_2, li_3, li_4, li_5, li_6, li_7, li_8, li_9, li_10, li_11, li_12, li_13, li_14, li_15, li_16, li_17, li_18, li_19, li_20, li_21, li_22, li_23, li_24, li_25, li_26, li_27, li_28, li_29, li_30, li_31, li_32, li_33, li_34, li_35, li_36, li_37, li_38, li_39, li_40, li_41, li_42, li_43, li_44, li_45, li_46, li_47, li_48, li_49, li_50, li_51, li_52, li_53, li_54, li_55, li_56, li_57, li_58, li_59, li_60, li_61, li_62, li_63, li_64, li_74, li_86, li_87, li_88, li_96, li_97, li_98, li_99, li_100, li_101, li_102, li_103, li_104, li_105, li_107, li_108, li_109, li_110, li_111, li_112, li_114, li_115, li_116, li_117, li_118, li_121, li_122, li_124, li_136, li_148, li_160, li_680, li_200, li_201, li_255, li_700, li_950, li_1000, li_1400, li_3440, li_4096, li_9999, li_10000, li_20000, li_20033, li_20038, li_20124, li_32767, li_65535, li_1103515245, li_12345, li_m, sx_grd, sx_clamp, nI_add, sx_sub, pk_mul, sx_le, sx_lt, sx_eq, sx_eqm, sx_meq, sx_lem, sx_mle, sx_ltm, sx_mlt, sx_addm, sx_shl, sx_bit1, sx_bit0, fa_or, uA_s, uA_n, sA_s, sA_n, sx_uA, sx_uAn, sx_sAs, pk_us, pk_un, if_true, if_false, if_pos, if_neg, ob_some, Nat.add_zero, Nat.add_sub_cancel, eq_self, ne_eq, not_true, not_false_iff, false_or, true_or, or_false, or_true, false_and, true_and, and_false, and_true, grd_d, c0.1.2.2, c_ref (x := z.1.1 0) (w := 1) (by omega)]
      have em : f_X12_evenings z.2.1 (ar 1) = some (mO, ((upd z.2.1.1 0 (nI 0), z.2.1.2.1, uA z.2.1.2.2 4 1 (z.2.1.2.2 4 1 + nI 1)) : MS)) := by
        rw [ee]
        simp (disch := omega) only [f_X12_evenings, f_X12_evenings_J29, bnd_nr, li_0, li_1, li_2, li_3, li_4, li_5, li_6, li_7, li_8, li_9, li_10, li_11, li_12, li_13, li_14, li_15, li_16, li_17, li_18, li_19, li_20, li_21, li_22, li_23, li_24, li_25, li_26, li_27, li_28, li_29, li_30, li_31, li_32, li_33, li_34, li_35, li_36, li_37, li_38, li_39, li_40, li_41, li_42, li_43, li_44, li_45, li_46, li_47, li_48, li_49, li_50, li_51, li_52, li_53, li_54, li_55, li_56, li_57, li_58, li_59, li_60, li_61, li_62, li_63, li_64, li_74, li_86, li_87, li_88, li_96, li_97, li_98, li_99, li_100, li_101, li_102, li_103, li_104, li_105, li_107, li_108, li_109, li_110, li_111, li_112, li_114, li_115, li_116, li_117, li_118, li_121, li_122, li_124, li_136, li_148, li_160, li_680, li_200, li_201, li_255, li_700, li_950, li_1000, li_1400, li_3440, li_4096, li_9999, li_10000, li_20000, li_20033, li_20038, li_20124, li_32767, li_65535, li_1103515245, li_12345, li_m, sx_grd, sx_clamp, nI_add, sx_sub, pk_mul, sx_le, sx_lt, sx_eq, sx_eqm, sx_meq, sx_lem, sx_mle, sx_ltm, sx_mlt, sx_addm, sx_shl, sx_bit1, sx_bit0, fa_or, uA_s, uA_n, sA_s, sA_n, sx_uA, sx_uAn, sx_sAs, pk_us, pk_un, if_true, if_false, if_pos, if_neg, ob_some, Nat.add_zero, Nat.add_sub_cancel, eq_self, ne_eq, not_true, not_false_iff, false_or, true_or, or_false, or_true, false_and, true_and, and_false, and_true, mw, d0, m_ref (M := ((upd z.2.1.1 0 (nI 0), z.2.1.2) : MS)) (w := 1) (by omega)]
      refine GD_r h (x' := sV (sV (sV (sV (sV z.1.1 0 ((z.1.1 0).1, uA (z.1.1 0).2 1 1 ((z.1.1 0).2 1 1 + nI 1))) 9 (z.1.1 9)) 10 (z.1.1 10)) 11 (z.1.1 11)) 14 (z.1.1 14)) (o' := z.2.2) (w := 1) (by omega) (by rw [sV_n (by omega), sV_n (by omega), sV_n (by omega), sV_n (by omega), sV_s]) (fun j hj => sV_5 j (by omega)) ⟨(mO, ((z.1.1 0).1, uA (z.1.1 0).2 1 1 ((z.1.1 0).2 1 1 + nI 1)), z.1.2.2.1, z.1.1 9, z.1.1 10, z.1.1 11, z.1.2.2.2.1, z.1.1 14, z.1.2.2.2.2.1), (mO, ((upd z.2.1.1 0 (nI 0), z.2.1.2.1, uA z.2.1.2.2 4 1 (z.2.1.2.2 4 1 + nI 1)) : MS)), ea, em, rfl, rfl⟩
  · have mw := mw_no (a := 1) (n := 20) (by omega) (by omega) b1
    have cn : ar 1 < nI 1 ∨ (¬ ar 1 < nI 1 ∧ nI 20 < ar 1) := by
      rcases i_cs (ar 1) with q | ⟨j, hj, ej⟩
      · exact Or.inl (Int32.lt_trans q (by decide))
      · rcases Nat.lt_or_ge j 1 with q | q
        · exact Or.inl (by rw [ej]; exact nI_lt q (by omega))
        · rcases Nat.lt_or_ge 20 j with q2 | q2
          · exact Or.inr ⟨by rw [ej]; exact nI_nlt q hj, by rw [ej]; exact nI_lt q2 hj⟩
          · exact absurd ⟨j, q, q2, ej⟩ b1
    have ea : f_X11_evenings (z.1.1 0) z.1.2.2.1 (z.1.1 9) (z.1.1 10) (z.1.1 11) (z.1.1 12) z.1.2.2.2.1 (z.1.1 14) z.1.2.2.2.2.1 (nf1 z) (nf2 z) (ar 1) = some (mO, ((z.1.1 0).1, uA (z.1.1 0).2 1 1 ((z.1.1 0).2 1 1 + nI 1)), z.1.2.2.1, z.1.1 9, z.1.1 10, z.1.1 11, z.1.2.2.2.1, z.1.1 14, z.1.2.2.2.2.1) := by
      rcases cn with q | ⟨q1, q2⟩
      · simp (disch := omega) only [f_X11_evenings, f_X11_evenings_J26, bnd_nr, li_0, li_1, li_2, li_3, li_4, li_5, li_6, li_7, li_8, li_9, li_10, li_11, li_12, li_13, li_14, li_15, li_16, li_17, li_18, li_19, li_20, li_21, li_22, li_23, li_24, li_25, li_26, li_27, li_28, li_29, li_30, li_31, li_32, li_33, li_34, li_35, li_36, li_37, li_38, li_39, li_40, li_41, li_42, li_43, li_44, li_45, li_46, li_47, li_48, li_49, li_50, li_51, li_52, li_53, li_54, li_55, li_56, li_57, li_58, li_59, li_60, li_61, li_62, li_63, li_64, li_74, li_86, li_87, li_88, li_96, li_97, li_98, li_99, li_100, li_101, li_102, li_103, li_104, li_105, li_107, li_108, li_109, li_110, li_111, li_112, li_114, li_115, li_116, li_117, li_118, li_121, li_122, li_124, li_136, li_148, li_160, li_680, li_200, li_201, li_255, li_700, li_950, li_1000, li_1400, li_3440, li_4096, li_9999, li_10000, li_20000, li_20033, li_20038, li_20124, li_32767, li_65535, li_1103515245, li_12345, li_m, sx_grd, sx_clamp, nI_add, sx_sub, pk_mul, sx_le, sx_lt, sx_eq, sx_eqm, sx_meq, sx_lem, sx_mle, sx_ltm, sx_mlt, sx_addm, sx_shl, sx_bit1, sx_bit0, fa_or, uA_s, uA_n, sA_s, sA_n, sx_uA, sx_uAn, sx_sAs, pk_us, pk_un, if_true, if_false, if_pos, if_neg, ob_some, Nat.add_zero, Nat.add_sub_cancel, eq_self, ne_eq, not_true, not_false_iff, false_or, true_or, or_false, or_true, false_and, true_and, and_false, and_true, grd_d, q, c_ref (x := z.1.1 0) (w := 1) (by omega)]
      · simp (disch := omega) only [f_X11_evenings, f_X11_evenings_J26, bnd_nr, li_0, li_1, li_2, li_3, li_4, li_5, li_6, li_7, li_8, li_9, li_10, li_11, li_12, li_13, li_14, li_15, li_16, li_17, li_18, li_19, li_20, li_21, li_22, li_23, li_24, li_25, li_26, li_27, li_28, li_29, li_30, li_31, li_32, li_33, li_34, li_35, li_36, li_37, li_38, li_39, li_40, li_41, li_42, li_43, li_44, li_45, li_46, li_47, li_48, li_49, li_50, li_51, li_52, li_53, li_54, li_55, li_56, li_57, li_58, li_59, li_60, li_61, li_62, li_63, li_64, li_74, li_86, li_87, li_88, li_96, li_97, li_98, li_99, li_100, li_101, li_102, li_103, li_104, li_105, li_107, li_108, li_109, li_110, li_111, li_112, li_114, li_115, li_116, li_117, li_118, li_121, li_122, li_124, li_136, li_148, li_160, li_680, li_200, li_201, li_255, li_700, li_950, li_1000, li_1400, li_3440, li_4096, li_9999, li_10000, li_20000, li_20033, li_20038, li_20124, li_32767, li_65535, li_1103515245, li_12345, li_m, sx_grd, sx_clamp, nI_add, sx_sub, pk_mul, sx_le, sx_lt, sx_eq, sx_eqm, sx_meq, sx_lem, sx_mle, sx_ltm, sx_mlt, sx_addm, sx_shl, sx_bit1, sx_bit0, fa_or, uA_s, uA_n, sA_s, sA_n, sx_uA, sx_uAn, sx_sAs, pk_us, pk_un, if_true, if_false, if_pos, if_neg, ob_some, Nat.add_zero, Nat.add_sub_cancel, eq_self, ne_eq, not_true, not_false_iff, false_or, true_or, or_false, or_true, false_and, true_and, and_false, and_true, grd_d, q1, q2, c_ref (x := z.1.1 0) (w := 1) (by omega)]
    have em : f_X12_evenings z.2.1 (ar 1) = some (mO, ((upd z.2.1.1 0 (nI 0), z.2.1.2.1, uA z.2.1.2.2 4 1 (z.2.1.2.2 4 1 + nI 1)) : MS)) := by
      simp (disch := omega) only [f_X12_evenings, f_X12_evenings_J29, bnd_nr, li_0, li_1, li_2, li_3, li_4, li_5, li_6, li_7, li_8, li_9, li_10, li_11, li_12, li_13, li_14, li_15, li_16, li_17, li_18, li_19, li_20, li_21, li_22, li_23, li_24, li_25, li_26, li_27, li_28, li_29, li_30, li_31, li_32, li_33, li_34, li_35, li_36, li_37, li_38, li_39, li_40, li_41, li_42, li_43, li_44, li_45, li_46, li_47, li_48, li_49, li_50, li_51, li_52, li_53, li_54, li_55, li_56, li_57, li_58, li_59, li_60, li_61, li_62, li_63, li_64, li_74, li_86, li_87, li_88, li_96, li_97, li_98, li_99, li_100, li_101, li_102, li_103, li_104, li_105, li_107, li_108, li_109, li_110, li_111, li_112, li_114, li_115, li_116, li_117, li_118, li_121, li_122, li_124, li_136, li_148, li_160, li_680, li_200, li_201, li_255, li_700, li_950, li_1000, li_1400, li_3440, li_4096, li_9999, li_10000, li_20000, li_20033, li_20038, li_20124, li_32767, li_65535, li_1103515245, li_12345, li_m, sx_grd, sx_clamp, nI_add, sx_sub, pk_mul, sx_le, sx_lt, sx_eq, sx_eqm, sx_meq, sx_lem, sx_mle, sx_ltm, sx_mlt, sx_addm, sx_shl, sx_bit1, sx_bit0, fa_or, uA_s, uA_n, sA_s, sA_n, sx_uA, sx_uAn, sx_sAs, pk_us, pk_un, if_true, if_false, if_pos, if_neg, ob_some, Nat.add_zero, Nat.add_sub_cancel, eq_self, ne_eq, not_true, not_false_iff, false_or, true_or, or_false, or_true, false_and, true_and, and_false, and_true, mw, m_ref (M := ((upd z.2.1.1 0 (nI 0), z.2.1.2) : MS)) (w := 1) (by omega)]
    refine GD_r h (x' := sV (sV (sV (sV (sV z.1.1 0 ((z.1.1 0).1, uA (z.1.1 0).2 1 1 ((z.1.1 0).2 1 1 + nI 1))) 9 (z.1.1 9)) 10 (z.1.1 10)) 11 (z.1.1 11)) 14 (z.1.1 14)) (o' := z.2.2) (w := 1) (by omega) (by rw [sV_n (by omega), sV_n (by omega), sV_n (by omega), sV_n (by omega), sV_s]) (fun j hj => sV_5 j (by omega)) ⟨(mO, ((z.1.1 0).1, uA (z.1.1 0).2 1 1 ((z.1.1 0).2 1 1 + nI 1)), z.1.2.2.1, z.1.1 9, z.1.1 10, z.1.1 11, z.1.2.2.2.1, z.1.1 14, z.1.2.2.2.2.1), (mO, ((upd z.2.1.1 0 (nI 0), z.2.1.2.1, uA z.2.1.2.2 4 1 (z.2.1.2.2 4 1 + nI 1)) : MS)), ea, em, rfl, rfl⟩
theorem g_undo (h : IV V E F S A IB I T k z) : GD SK_undo z ar := by
  have h9 := h
  obtain ⟨pu, ⟨N, wc⟩, kx, mX, mi⟩ := h9
  have cw := pu.1
  have fok := pu.2.1
  have sok := pu.2.2.1
  have n12 := cw.1.1.1.1
  have h12 := Nat.le_trans cw.1.hn n12
  have e9 := cw.2.1
  obtain ⟨n1, n2, n3⟩ := wc.n
  have c0 := wc.c0
  have f0 : 0 < z.1.2.2.2.1.1 := by omega
  have m1 := mX.u0 (x := nI 0)
  have wi := wc.id (f := nI)
  have ci := cw.id
  have c0i := wi.c0
  have aok := pu.2.2.2.1
  have a36 : z.2.1.1 36 = nI A.1 := mX.2.2.2.2.1.1
  have c14 := kx.2.2.1.1
  have a40 := aok.1
  rcases Classical.em (A.1 = 0) with ez | ez
  · have ea : f_X11_undo (z.1.1 0) z.1.2.2.1 (z.1.1 9) (z.1.1 10) (z.1.1 11) (z.1.1 12) z.1.2.2.2.1 (z.1.1 14) z.1.2.2.2.2.1 (nf2 z) = some (mO, z.1.2.2.1, z.1.2.2.2.1, z.1.1 14, z.1.2.2.2.2.1) := by
      simp (disch := omega) only [f_X11_undo, bnd_nr, li_0, li_1, li_2, li_3, li_4, li_5, li_6, li_7, li_8, li_9, li_10, li_11, li_12, li_13, li_14, li_15, li_16, li_17, li_18, li_19, li_20, li_21, li_22, li_23, li_24, li_25, li_26, li_27, li_28, li_29, li_30, li_31, li_32, li_33, li_34, li_35, li_36, li_37, li_38, li_39, li_40, li_41, li_42, li_43, li_44, li_45, li_46, li_47, li_48, li_49, li_50, li_51, li_52, li_53, li_54, li_55, li_56, li_57, li_58, li_59, li_60, li_61, li_62, li_63, li_64, li_74, li_86, li_87, li_88, li_96, li_97, li_98, li_99, li_100, li_101, li_102, li_103, li_104, li_105, li_107, li_108, li_109, li_110, li_111, li_112, li_114, li_115, li_116, li_117, li_118, li_121, li_122, li_124, li_136, li_148, li_160, li_680, li_200, li_201, li_255, li_700, li_950, li_1000, li_1400, li_3440, li_4096, li_9999, li_10000, li_20000, li_20033, li_20038, li_20124, li_32767, li_65535, li_1103515245, li_12345, li_m, sx_grd, sx_clamp, nI_add, sx_sub, pk_mul, sx_le, sx_lt, sx_eq, sx_eqm, sx_meq, sx_lem, sx_mle, sx_ltm, sx_mlt, sx_addm, sx_shl, sx_bit1, sx_bit0, fa_or, uA_s, uA_n, sA_s, sA_n, sx_uA, sx_uAn, sx_sAs, pk_us, pk_un, if_true, if_false, if_pos, if_neg, ob_some, Nat.add_zero, Nat.add_sub_cancel, eq_self, ne_eq, not_true, not_false_iff, false_or, true_or, or_false, or_true, false_and, true_and, and_false, and_true, c14, ez]
    have em : f_X12_undo z.2.1 = some (mO, ((upd z.2.1.1 0 (nI 0), z.2.1.2) : MS)) := by
      simp (disch := omega) only [f_X12_undo, bnd_nr, li_0, li_1, li_2, li_3, li_4, li_5, li_6, li_7, li_8, li_9, li_10, li_11, li_12, li_13, li_14, li_15, li_16, li_17, li_18, li_19, li_20, li_21, li_22, li_23, li_24, li_25, li_26, li_27, li_28, li_29, li_30, li_31, li_32, li_33, li_34, li_35, li_36, li_37, li_38, li_39, li_40, li_41, li_42, li_43, li_44, li_45, li_46, li_47, li_48, li_49, li_50, li_51, li_52, li_53, li_54, li_55, li_56, li_57, li_58, li_59, li_60, li_61, li_62, li_63, li_64, li_74, li_86, li_87, li_88, li_96, li_97, li_98, li_99, li_100, li_101, li_102, li_103, li_104, li_105, li_107, li_108, li_109, li_110, li_111, li_112, li_114, li_115, li_116, li_117, li_118, li_121, li_122, li_124, li_136, li_148, li_160, li_680, li_200, li_201, li_255, li_700, li_950, li_1000, li_1400, li_3440, li_4096, li_9999, li_10000, li_20000, li_20033, li_20038, li_20124, li_32767, li_65535, li_1103515245, li_12345, li_m, sx_grd, sx_clamp, nI_add, sx_sub, pk_mul, sx_le, sx_lt, sx_eq, sx_eqm, sx_meq, sx_lem, sx_mle, sx_ltm, sx_mlt, sx_addm, sx_shl, sx_bit1, sx_bit0, fa_or, uA_s, uA_n, sA_s, sA_n, sx_uA, sx_uAn, sx_sAs, pk_us, pk_un, if_true, if_false, if_pos, if_neg, ob_some, Nat.add_zero, Nat.add_sub_cancel, eq_self, ne_eq, not_true, not_false_iff, false_or, true_or, or_false, or_true, false_and, true_and, and_false, and_true, a36, ez]
    exact GD_q h (x' := sV z.1.1 14 (z.1.1 14)) (cs' := z.1.2.2.1) (f1' := z.1.2.2.2.1) (M' := ((upd z.2.1.1 0 (nI 0), z.2.1.2) : MS)) (o' := z.2.2) (N := N) (fun j _ => sV_i j) (by rw [sV_i, sV_i]; exact wc) (QF.refl _) (by show z.1.2.2.2.1.1 ≤ _; omega) ⟨(mO, z.1.2.2.1, z.1.2.2.2.1, z.1.1 14, z.1.2.2.2.2.1), (mO, ((upd z.2.1.1 0 (nI 0), z.2.1.2) : MS)), ea, em, rfl, rfl⟩
  · obtain ⟨t, et, ta, kB, gv⟩ := c_take (v0 := z.1.2.2.2.1.2.2 0) kx.2.2.1 aok (by omega)
    rw [← kB] at et
    have t0 : t.1.1 0 = nI (A.1 - 1) := ta.1
    obtain ⟨w9, e99, n9⟩ := aok.2 (A.1 - 1) (by omega)
    obtain ⟨y, hy⟩ : ∃ y : MS, y = ((upd (upd z.2.1.1 0 (nI 0)) 36 (nI (A.1 - 1)), z.2.1.2) : MS) := ⟨_, rfl⟩
    have y36 : y.1 36 = nI (A.1 - 1) := by rw [hy]; show upd (upd z.2.1.1 0 (nI 0)) 36 (nI (A.1 - 1)) 36 = _; exact pk_us
    have y1 : ∀ k, k ≠ 36 → y.1 k = (((upd z.2.1.1 0 (nI 0), z.2.1.2) : MS)).1 k := fun k hk => by rw [hy]; show upd (upd z.2.1.1 0 (nI 0)) 36 (nI (A.1 - 1)) k = _; exact pk_un hk
    have y2 : y.2.2 = z.2.1.2.2 := by rw [hy]
    obtain ⟨r, er, r0, r1, r2, r3⟩ := m_undoL y36 (by omega)
    have hf : FRm ((upd z.2.1.1 0 (nI 0), z.2.1.2) : MS) r.2 := ⟨fun k a _ => by rw [r1]; exact y1 k a, fun j a _ _ _ _ => by rw [r2 j a, y2]⟩
    have hv : VM r.2 0 (A.2 (A.1 - 1)) := ⟨by rw [r1, y1 1 (by omega), n9]; exact m1.1.1, RW_cp w9 (fun j hj => by rw [Nat.zero_add, r3 j hj, y2]) (m1.2.2.2.2.1.2 (A.1 - 1) (by omega))⟩
    have hm : AMr (r.2.1 36) (r.2.2.2 11) (A.1 - 1, A.2) := ⟨by rw [r1]; exact y36, fun i hi => by
      have hi : i < A.1 - 1 := hi
      rw [r2 11 (by omega), y2]
      exact m1.2.2.2.2.1.2 i (by omega)⟩
    have ea : f_X11_undo (z.1.1 0) z.1.2.2.1 (z.1.1 9) (z.1.1 10) (z.1.1 11) (z.1.1 12) z.1.2.2.2.1 (z.1.1 14) z.1.2.2.2.2.1 t.2.1.1 = some (nI (A.1 - 1), ((upd z.1.2.2.1.1 6 (nI 0), z.1.2.2.1.2) : CS), ((z.1.2.2.2.1.1, z.1.2.2.2.1.2.1, sV z.1.2.2.2.1.2.2 0 t.2.2) : FS), t.1, t.2.1) := by
      simp (disch := omega) only [f_X11_undo, bnd_nr, li_0, li_1, li_2, li_3, li_4, li_5, li_6, li_7, li_8, li_9, li_10, li_11, li_12, li_13, li_14, li_15, li_16, li_17, li_18, li_19, li_20, li_21, li_22, li_23, li_24, li_25, li_26, li_27, li_28, li_29, li_30, li_31, li_32, li_33, li_34, li_35, li_36, li_37, li_38, li_39, li_40, li_41, li_42, li_43, li_44, li_45, li_46, li_47, li_48, li_49, li_50, li_51, li_52, li_53, li_54, li_55, li_56, li_57, li_58, li_59, li_60, li_61, li_62, li_63, li_64, li_74, li_86, li_87, li_88, li_96, li_97, li_98, li_99, li_100, li_101, li_102, li_103, li_104, li_105, li_107, li_108, li_109, li_110, li_111, li_112, li_114, li_115, li_116, li_117, li_118, li_121, li_122, li_124, li_136, li_148, li_160, li_680, li_200, li_201, li_255, li_700, li_950, li_1000, li_1400, li_3440, li_4096, li_9999, li_10000, li_20000, li_20033, li_20038, li_20124, li_32767, li_65535, li_1103515245, li_12345, li_m, sx_grd, sx_clamp, nI_add, sx_sub, pk_mul, sx_le, sx_lt, sx_eq, sx_eqm, sx_meq, sx_lem, sx_mle, sx_ltm, sx_mlt, sx_addm, sx_shl, sx_bit1, sx_bit0, fa_or, uA_s, uA_n, sA_s, sA_n, sx_uA, sx_uAn, sx_sAs, pk_us, pk_un, if_true, if_false, if_pos, if_neg, ob_some, Nat.add_zero, Nat.add_sub_cancel, eq_self, ne_eq, not_true, not_false_iff, false_or, true_or, or_false, or_true, false_and, true_and, and_false, and_true, grd_d, c14, ez, et, c_chg, t0]
    have em : f_X12_undo z.2.1 = some (nI (A.1 - 1), r.2) := by
      rw [hy] at er
      rw [← r0]
      simp (disch := omega) only [f_X12_undo, bnd_nr, li_0, li_1, li_2, li_3, li_4, li_5, li_6, li_7, li_8, li_9, li_10, li_11, li_12, li_13, li_14, li_15, li_16, li_17, li_18, li_19, li_20, li_21, li_22, li_23, li_24, li_25, li_26, li_27, li_28, li_29, li_30, li_31, li_32, li_33, li_34, li_35, li_36, li_37, li_38, li_39, li_40, li_41, li_42, li_43, li_44, li_45, li_46, li_47, li_48, li_49, li_50, li_51, li_52, li_53, li_54, li_55, li_56, li_57, li_58, li_59, li_60, li_61, li_62, li_63, li_64, li_74, li_86, li_87, li_88, li_96, li_97, li_98, li_99, li_100, li_101, li_102, li_103, li_104, li_105, li_107, li_108, li_109, li_110, li_111, li_112, li_114, li_115, li_116, li_117, li_118, li_121, li_122, li_124, li_136, li_148, li_160, li_680, li_200, li_201, li_255, li_700, li_950, li_1000, li_1400, li_3440, li_4096, li_9999, li_10000, li_20000, li_20033, li_20038, li_20124, li_32767, li_65535, li_1103515245, li_12345, li_m, sx_grd, sx_clamp, nI_add, sx_sub, pk_mul, sx_le, sx_lt, sx_eq, sx_eqm, sx_meq, sx_lem, sx_mle, sx_ltm, sx_mlt, sx_addm, sx_shl, sx_bit1, sx_bit0, fa_or, uA_s, uA_n, sA_s, sA_n, sx_uA, sx_uAn, sx_sAs, pk_us, pk_un, if_true, if_false, if_pos, if_neg, ob_some, Nat.add_zero, Nat.add_sub_cancel, eq_self, ne_eq, not_true, not_false_iff, false_or, true_or, or_false, or_true, false_and, true_and, and_false, and_true, a36, ez, er]
    exact GD_a h (V' := A.2 (A.1 - 1)) (A' := (A.1 - 1, A.2)) (x' := sV z.1.1 14 t.1) (cs' := ((upd z.1.2.2.1.1 6 (nI 0), z.1.2.2.1.2) : CS)) (f1' := ((z.1.2.2.2.1.1, z.1.2.2.2.1.2.1, sV z.1.2.2.2.1.2.2 0 t.2.2) : FS)) (f2' := t.2.1) (M' := r.2) (o' := z.2.2) (N := N) ⟨w9, e99, n9⟩ ⟨show A.1 - 1 ≤ 40 by omega, fun i hi => aok.2 i (by have hi : i < A.1 - 1 := hi; omega)⟩ (fun j hj => sV_n (by omega)) (by rw [sV_n (by omega), sV_n (by omega)]; exact WC_new wc gv wc.2.1 wc.2.2) (by rw [sV_s]; exact ta) hf hv hm (by show z.1.2.2.2.1.1 ≤ _; omega) (by rw [kB]; exact Nat.le_refl _) ⟨(nI (A.1 - 1), ((upd z.1.2.2.1.1 6 (nI 0), z.1.2.2.1.2) : CS), ((z.1.2.2.2.1.1, z.1.2.2.2.1.2.1, sV z.1.2.2.2.1.2.2 0 t.2.2) : FS), t.1, t.2.1), (nI (A.1 - 1), r.2), ea, em, rfl, rfl⟩
end SKS
