/-! the reference's goers -/
def SC (M M' : MS) : Prop := M'.1 = M.1 ∧ M'.2.1 = M.2.1 ∧ ∀ j, j ≠ 12 → j ≠ 13 → M'.2.2 j = M.2.2 j
theorem SC.refl (M : MS) : SC M M := ⟨rfl, rfl, fun _ _ _ => rfl⟩
theorem SC.trans {M N P : MS} (h : SC M N) (k : SC N P) : SC M P := ⟨k.1.trans h.1, k.2.1.trans h.2.1, fun j a b => (k.2.2 j a b).trans (h.2.2 j a b)⟩
theorem VM_of {M M' : MS} {b : Nat} {V : VT} (e1 : M'.1 1 = M.1 1) (e2 : M'.2.2 10 = M.2.2 10) (v : VM M b V) : VM M' b V := by
  unfold VM; rw [e1, e2]; exact v
theorem VM.sc {M M' : MS} {b : Nat} {V : VT} (v : VM M b V) (s : SC M M') : VM M' b V := VM_of (by rw [s.1]) (s.2.2 10 (by omega) (by omega)) v
theorem RMo_of {M M' : MS} {a : Int32} {r : RU} (e : M'.2.2 2 = M.2.2 2) (h : RMo M a r) : RMo M' a r := by
  unfold RMo; rw [e]; exact h
theorem RMo.sc {M M' : MS} {a : Int32} {r : RU} (h : RMo M a r) (s : SC M M') : RMo M' a r := RMo_of (s.2.2 2 (by omega) (by omega)) h
theorem RMo.of {M : MS} {r : RU} {lo hi : Nat} {a : Int32} (h : RMo M a r) (k : RUok r lo hi) (hb : hi ≤ 8) (t : r.1 = true) : RT (f_X12_reckons M a) (fun q => q.1 = ss r.2.1 (M.2.2 12) r.2.2 0 ∧ q.2.1 = M.1 ∧ q.2.2.1 = M.2.1 ∧ ∀ j, j ≠ 13 → q.2.2.2 j = M.2.2 j) := by
  obtain ⟨k1, k2, k3⟩ := k t
  obtain ⟨at0, rfl, h2⟩ := h.2 t
  exact r_model (fun i hi9 => ⟨(k3 i hi9).1, (k3 i hi9).2.1, fun a b => by have := (k3 i hi9).2.2 a b; omega⟩) k2 k1 h2
set_option maxRecDepth 2000 in
theorem m_picksBy {M : MS} {b : Nat} {E : RE} {V : VT} (v : VM M b V) (w : WFP V) (hb : b ≤ 86) (k : EOK E) (hR : RMo M (M.1 3) E.1) {p : Nat} (hp : p < vn V) : RT (f_X12_picksBy M (nI b) (nI p)) (fun q => q.1 = (if E.1.1 then wr E V p else nI (pl V p)) ∧ SC M q.2) := by
  refine RT.cps (fun Q hQ => ?_)
  obtain ⟨b1, b2, b3, b4⟩ := w.2.1 p hp
  have b0 := w.1
  unfold f_X12_picksBy
  cases t : E.1.1
  · refine RT.itT (hR.1 t) ?_
    simp (disch := omega) only [bnd_nr, li_0, li_1, li_2, li_3, li_4, li_5, li_6, li_7, li_8, li_9, li_10, li_11, li_12, li_13, li_14, li_15, li_16, li_17, li_18, li_19, li_20, li_21, li_22, li_23, li_24, li_25, li_26, li_27, li_28, li_29, li_30, li_31, li_32, li_33, li_34, li_35, li_36, li_37, li_38, li_39, li_40, li_41, li_42, li_43, li_44, li_45, li_46, li_47, li_48, li_49, li_50, li_51, li_52, li_53, li_54, li_55, li_56, li_57, li_58, li_59, li_60, li_61, li_62, li_63, li_64, li_74, li_86, li_87, li_88, li_96, li_97, li_98, li_99, li_100, li_101, li_102, li_103, li_104, li_105, li_107, li_108, li_109, li_110, li_111, li_112, li_114, li_115, li_116, li_117, li_118, li_121, li_122, li_124, li_136, li_148, li_160, li_680, li_200, li_201, li_255, li_700, li_950, li_1000, li_1400, li_3440, li_4096, li_9999, li_10000, li_20000, li_20033, li_20038, li_20124, li_32767, li_65535, li_1103515245, li_12345, li_m, sx_grd, sx_clamp, nI_add, sx_sub, pk_mul, sx_le, sx_lt, sx_eq, sx_eqm, sx_meq, sx_lem, sx_mle, sx_ltm, sx_mlt, sx_addm, sx_shl, sx_bit1, sx_bit0, fa_or, uA_s, uA_n, sA_s, sA_n, sx_uA, sx_uAn, sx_sAs, pk_us, pk_un, if_true, if_false, if_pos, if_neg, ob_some, Nat.add_zero, Nat.add_sub_cancel, eq_self, ne_eq, not_true, not_false_iff, false_or, true_or, or_false, or_true, false_and, true_and, and_false, and_true, v.p p hp]
    exact RT.done hQ ⟨by rw [t]; rfl, SC.refl M⟩
  · obtain ⟨at0, e0, h2⟩ := hR.2 t
    have ha : at0 < 1400 := Nat.lt_of_le_of_lt (ps_mono (c := E.1.2.1) (at0 := at0) (i := 0) (j := E.1.2.2) (by omega)) h2.1
    refine RT.itF (by rw [e0]; show ¬ nI at0 = mO; rw [sx_eqm (by omega)]; exact fun z => z) ?_
    simp (disch := omega) only [bnd_nr, li_0, li_1, li_2, li_3, li_4, li_5, li_6, li_7, li_8, li_9, li_10, li_11, li_12, li_13, li_14, li_15, li_16, li_17, li_18, li_19, li_20, li_21, li_22, li_23, li_24, li_25, li_26, li_27, li_28, li_29, li_30, li_31, li_32, li_33, li_34, li_35, li_36, li_37, li_38, li_39, li_40, li_41, li_42, li_43, li_44, li_45, li_46, li_47, li_48, li_49, li_50, li_51, li_52, li_53, li_54, li_55, li_56, li_57, li_58, li_59, li_60, li_61, li_62, li_63, li_64, li_74, li_86, li_87, li_88, li_96, li_97, li_98, li_99, li_100, li_101, li_102, li_103, li_104, li_105, li_107, li_108, li_109, li_110, li_111, li_112, li_114, li_115, li_116, li_117, li_118, li_121, li_122, li_124, li_136, li_148, li_160, li_680, li_200, li_201, li_255, li_700, li_950, li_1000, li_1400, li_3440, li_4096, li_9999, li_10000, li_20000, li_20033, li_20038, li_20124, li_32767, li_65535, li_1103515245, li_12345, li_m, sx_grd, sx_clamp, nI_add, sx_sub, pk_mul, sx_le, sx_lt, sx_eq, sx_eqm, sx_meq, sx_lem, sx_mle, sx_ltm, sx_mlt, sx_addm, sx_shl, sx_bit1, sx_bit0, fa_or, uA_s, uA_n, sA_s, sA_n, sx_uA, sx_uAn, sx_sAs, pk_us, pk_un, if_true, if_false, if_pos, if_neg, ob_some, Nat.add_zero, Nat.add_sub_cancel, eq_self, ne_eq, not_true, not_false_iff, false_or, true_or, or_false, or_true, false_and, true_and, and_false, and_true, v.h p hp, v.r p hp, v.p p hp, v.s p hp, v.m p hp]
    simp only [v.e]
    refine RT.bindE (m_sizeOf (V := V) ?_ w hb (by omega)) ?_
    · exact VM_of (M := M) rfl (by simp (disch := omega) only [uA_n]) v
    refine RT.bind (RMo.of (r := E.1) ?_ k.1 (by omega) t) (fun q hq => RT.done hQ ⟨?_, ?_, ?_, fun j j1 j2 => ?_⟩)
    · exact RMo_of (M := M) (by simp (disch := omega) only [uA_n]) hR
    · rw [hq.1, if_pos t, wr, if_pos t]
      refine congrFun (ss_cong (lo := 0) (hi := 5) (len := E.1.2.2) (fun i hi => ((k.1 t).2.2 i hi).2.2) (fun j _ hj => ?_) _ (Nat.le_refl _)) 0
      unfold pvF
      rcases (show j = 0 ∨ j = 1 ∨ j = 2 ∨ j = 3 ∨ j = 4 ∨ j = 5 by omega) with rfl | rfl | rfl | rfl | rfl | rfl <;> simp (disch := omega) only [bnd_nr, li_0, li_1, li_2, li_3, li_4, li_5, li_6, li_7, li_8, li_9, li_10, li_11, li_12, li_13, li_14, li_15, li_16, li_17, li_18, li_19, li_20, li_21, li_22, li_23, li_24, li_25, li_26, li_27, li_28, li_29, li_30, li_31, li_32, li_33, li_34, li_35, li_36, li_37, li_38, li_39, li_40, li_41, li_42, li_43, li_44, li_45, li_46, li_47, li_48, li_49, li_50, li_51, li_52, li_53, li_54, li_55, li_56, li_57, li_58, li_59, li_60, li_61, li_62, li_63, li_64, li_74, li_86, li_87, li_88, li_96, li_97, li_98, li_99, li_100, li_101, li_102, li_103, li_104, li_105, li_107, li_108, li_109, li_110, li_111, li_112, li_114, li_115, li_116, li_117, li_118, li_121, li_122, li_124, li_136, li_148, li_160, li_680, li_200, li_201, li_255, li_700, li_950, li_1000, li_1400, li_3440, li_4096, li_9999, li_10000, li_20000, li_20033, li_20038, li_20124, li_32767, li_65535, li_1103515245, li_12345, li_m, sx_grd, sx_clamp, nI_add, sx_sub, pk_mul, sx_le, sx_lt, sx_eq, sx_eqm, sx_meq, sx_lem, sx_mle, sx_ltm, sx_mlt, sx_addm, sx_shl, sx_bit1, sx_bit0, fa_or, uA_s, uA_n, sA_s, sA_n, sx_uA, sx_uAn, sx_sAs, pk_us, pk_un, if_true, if_false, if_pos, if_neg, ob_some, Nat.add_zero, Nat.add_sub_cancel, eq_self, ne_eq, not_true, not_false_iff, false_or, true_or, or_false, or_true, false_and, true_and, and_false, and_true]
    · exact hq.2.1
    · exact hq.2.2.1
    · rw [hq.2.2.2 j j2]
      simp (disch := omega) only [uA_n]
set_option maxRecDepth 2000 in
theorem m_staysIn {M : MS} {b : Nat} {E : RE} {V : VT} (v : VM M b V) (w : WFP V) (hb : b ≤ 86) (k : EOK E) (hR : RMo M (M.1 4) E.2) (hs : M.1 39 = 0) {h : Nat} (hh9 : h < vh V) (h12 : vh V ≤ 12) : RT (f_X12_staysIn M (nI b) (nI h)) (fun q => q.1 = nI (if kb E V h then 1 else 0) ∧ SC M q.2) := by
  refine RT.cps (fun Q hQ => ?_)
  have b0 := w.1
  have b1 := w.2.2.2 h hh9
  have rl := rs_lt w h
  unfold f_X12_staysIn
  refine RT.itT hs ?_
  cases t : E.2.1
  · refine RT.itT (hR.1 t) (RT.done hQ ⟨?_, SC.refl M⟩)
    unfold kb
    rw [t]; rfl
  · obtain ⟨at0, e0, h2⟩ := hR.2 t
    have ha : at0 < 1400 := Nat.lt_of_le_of_lt (ps_mono (c := E.2.2.1) (at0 := at0) (i := 0) (j := E.2.2.2) (by omega)) h2.1
    refine RT.itF (by rw [e0]; show ¬ nI at0 = mO; rw [sx_eqm (by omega)]; exact fun z => z) ?_
    refine RT.bindE (m_sizeOf v w hb (by omega)) ?_
    simp (disch := omega) only [bnd_nr, li_0, li_1, li_2, li_3, li_4, li_5, li_6, li_7, li_8, li_9, li_10, li_11, li_12, li_13, li_14, li_15, li_16, li_17, li_18, li_19, li_20, li_21, li_22, li_23, li_24, li_25, li_26, li_27, li_28, li_29, li_30, li_31, li_32, li_33, li_34, li_35, li_36, li_37, li_38, li_39, li_40, li_41, li_42, li_43, li_44, li_45, li_46, li_47, li_48, li_49, li_50, li_51, li_52, li_53, li_54, li_55, li_56, li_57, li_58, li_59, li_60, li_61, li_62, li_63, li_64, li_74, li_86, li_87, li_88, li_96, li_97, li_98, li_99, li_100, li_101, li_102, li_103, li_104, li_105, li_107, li_108, li_109, li_110, li_111, li_112, li_114, li_115, li_116, li_117, li_118, li_121, li_122, li_124, li_136, li_148, li_160, li_680, li_200, li_201, li_255, li_700, li_950, li_1000, li_1400, li_3440, li_4096, li_9999, li_10000, li_20000, li_20033, li_20038, li_20124, li_32767, li_65535, li_1103515245, li_12345, li_m, sx_grd, sx_clamp, nI_add, sx_sub, pk_mul, sx_le, sx_lt, sx_eq, sx_eqm, sx_meq, sx_lem, sx_mle, sx_ltm, sx_mlt, sx_addm, sx_shl, sx_bit1, sx_bit0, fa_or, uA_s, uA_n, sA_s, sA_n, sx_uA, sx_uAn, sx_sAs, pk_us, pk_un, if_true, if_false, if_pos, if_neg, ob_some, Nat.add_zero, Nat.add_sub_cancel, eq_self, ne_eq, not_true, not_false_iff, false_or, true_or, or_false, or_true, false_and, true_and, and_false, and_true, v.o h hh9]
    simp only [v.e]
    refine RT.bindE (m_ranksOf (V := V) ?_ w hb (by omega)) ?_
    · exact VM_of (M := M) rfl (by simp (disch := omega) only [uA_n]) v
    refine RT.bind (RMo.of (r := E.2) ?_ k.2 (by omega) t) (fun q hq => ?_)
    · exact RMo_of (M := M) (by simp (disch := omega) only [uA_n]) hR
    have val : q.1 = ss E.2.2.1 (kvF V h) E.2.2.2 0 := by
      rw [hq.1]
      refine congrFun (ss_cong (lo := 4) (hi := 8) (len := E.2.2.2) (fun i hi => ((k.2 t).2.2 i hi).2.2) (fun j hj0 hj => ?_) _ (Nat.le_refl _)) 0
      unfold kvF
      rcases (show j = 4 ∨ j = 5 ∨ j = 6 ∨ j = 7 ∨ j = 8 by omega) with rfl | rfl | rfl | rfl | rfl <;> simp (disch := omega) only [bnd_nr, li_0, li_1, li_2, li_3, li_4, li_5, li_6, li_7, li_8, li_9, li_10, li_11, li_12, li_13, li_14, li_15, li_16, li_17, li_18, li_19, li_20, li_21, li_22, li_23, li_24, li_25, li_26, li_27, li_28, li_29, li_30, li_31, li_32, li_33, li_34, li_35, li_36, li_37, li_38, li_39, li_40, li_41, li_42, li_43, li_44, li_45, li_46, li_47, li_48, li_49, li_50, li_51, li_52, li_53, li_54, li_55, li_56, li_57, li_58, li_59, li_60, li_61, li_62, li_63, li_64, li_74, li_86, li_87, li_88, li_96, li_97, li_98, li_99, li_100, li_101, li_102, li_103, li_104, li_105, li_107, li_108, li_109, li_110, li_111, li_112, li_114, li_115, li_116, li_117, li_118, li_121, li_122, li_124, li_136, li_148, li_160, li_680, li_200, li_201, li_255, li_700, li_950, li_1000, li_1400, li_3440, li_4096, li_9999, li_10000, li_20000, li_20033, li_20038, li_20124, li_32767, li_65535, li_1103515245, li_12345, li_m, sx_grd, sx_clamp, nI_add, sx_sub, pk_mul, sx_le, sx_lt, sx_eq, sx_eqm, sx_meq, sx_lem, sx_mle, sx_ltm, sx_mlt, sx_addm, sx_shl, sx_bit1, sx_bit0, fa_or, uA_s, uA_n, sA_s, sA_n, sx_uA, sx_uAn, sx_sAs, pk_us, pk_un, if_true, if_false, if_pos, if_neg, ob_some, Nat.add_zero, Nat.add_sub_cancel, eq_self, ne_eq, not_true, not_false_iff, false_or, true_or, or_false, or_true, false_and, true_and, and_false, and_true]
    have fr : SC M q.2 := ⟨hq.2.1, hq.2.2.1, fun j j1 j2 => by rw [hq.2.2.2 j j2]; simp (disch := omega) only [uA_n]⟩
    refine RT.ite (fun z => RT.done hQ ⟨?_, fr⟩) (fun z => RT.done hQ ⟨?_, fr⟩)
    · unfold kb; rw [← val, t]; simp [show q.1 ≤ 0 from z]
    · unfold kb; rw [← val, t]; simp [show ¬ q.1 ≤ 0 from z]
def wv (E : RE) (V : VT) (p : Nat) : Int32 := if E.1.1 then wr E V p else nI (pl V p)
theorem wv_le {E : RE} {V : VT} {p q : Nat} (h1 : pl V p < 2147483648) (h2 : pl V q < 2147483648) (lt : pl V p < pl V q) : (wv E V p ≤ wv E V q → bts E V q p = true) ∧ (¬ wv E V p ≤ wv E V q → bts E V p q = true) := by
  unfold wv
  rw [bts_iff, bts_iff]
  cases t : E.1.1
  · simp (disch := omega) only [Bool.false_eq_true, if_false, sx_le]
    have e : ∀ r, wr E V r = 0 := fun r => by unfold wr; rw [t]; rfl
    rw [e, e]
    omega
  · simp only [if_true, fa_le]
    omega
theorem m_goerOf {M : MS} {b : Nat} {E : RE} {V : VT} {Hm : Nat} (v : VM M b V) (w : WFV V) (hb : b ≤ 86) (k : EOK E) (hP : RMo M (M.1 3) E.1) (hK : RMo M (M.1 4) E.2) (hs : M.1 39 = 0) (h40 : M.1 40 = nI Hm) (hm : Hm < 2147483648) {h : Nat} (hh9 : h < vh V) : RT (f_X12_goerOf M (nI b) (nI h)) (fun q => GR (goB E Hm.testBit V) V h q.1 ∧ SC M q.2) := by
  refine RT.cps (fun Q hQ => ?_)
  have hn := w.hn
  have wp := w.1
  have b0 := wp.1
  have s0 := sz_le V h
  unfold f_X12_goerOf
  refine RT.bind (m_staysIn v wp hb k hK hs hh9 (by omega)) (fun q1 ⟨e1, sc1⟩ => ?_)
  rw [e1]
  cases kk : kb E V h
  · refine RT.itT rfl ?_
    refine RT.bindE (m_sizeOf (v.sc sc1) wp hb (by omega)) ?_
    refine RT.loop0_3 (fun n x (l3 l4 : Int32) (z : MS) => f_X12_goerOf_L27 (nI b) (nI h) (nI (sz V h)) n l3 l4 (nI x) z) (sz V h) (fun x l3 l4 z => SC M z ∧ ((l3 = mO ∧ ∀ p, p < vn V → ho V p = h → pl V p < x → Hm.testBit p = true) ∨ ∃ p, p < vn V ∧ l3 = nI p ∧ ho V p = h ∧ pl V p < x ∧ Hm.testBit p = false ∧ l4 = wv E V p ∧ ∀ q, q < vn V → ho V q = h → pl V q < x → Hm.testBit q = false → bts E V p q = true)) _ _ _ _ (by omega) ?_ ?_ ?_
    · exact ⟨sc1, Or.inl ⟨rfl, fun p _ _ hx => absurd hx (Nat.not_lt_zero _)⟩⟩
    · intro n l3 l4 z ⟨sc, hc⟩
      show RT (f_X12_goerOf_L27 (nI b) (nI h) (nI (sz V h)) (n + 1) l3 l4 (nI (sz V h)) z) _
      unfold f_X12_goerOf_L27
      simp (disch := omega) only [bnd_nr, li_0, li_1, li_2, li_3, li_4, li_5, li_6, li_7, li_8, li_9, li_10, li_11, li_12, li_13, li_14, li_15, li_16, li_17, li_18, li_19, li_20, li_21, li_22, li_23, li_24, li_25, li_26, li_27, li_28, li_29, li_30, li_31, li_32, li_33, li_34, li_35, li_36, li_37, li_38, li_39, li_40, li_41, li_42, li_43, li_44, li_45, li_46, li_47, li_48, li_49, li_50, li_51, li_52, li_53, li_54, li_55, li_56, li_57, li_58, li_59, li_60, li_61, li_62, li_63, li_64, li_74, li_86, li_87, li_88, li_96, li_97, li_98, li_99, li_100, li_101, li_102, li_103, li_104, li_105, li_107, li_108, li_109, li_110, li_111, li_112, li_114, li_115, li_116, li_117, li_118, li_121, li_122, li_124, li_136, li_148, li_160, li_680, li_200, li_201, li_255, li_700, li_950, li_1000, li_1400, li_3440, li_4096, li_9999, li_10000, li_20000, li_20033, li_20038, li_20124, li_32767, li_65535, li_1103515245, li_12345, li_m, sx_grd, sx_clamp, nI_add, sx_sub, pk_mul, sx_le, sx_lt, sx_eq, sx_eqm, sx_meq, sx_lem, sx_mle, sx_ltm, sx_mlt, sx_addm, sx_shl, sx_bit1, sx_bit0, fa_or, uA_s, uA_n, sA_s, sA_n, sx_uA, sx_uAn, sx_sAs, pk_us, pk_un, if_true, if_false, if_pos, if_neg, ob_some, Nat.add_zero, Nat.add_sub_cancel, eq_self, ne_eq, not_true, not_false_iff, false_or, true_or, or_false, or_true, false_and, true_and, and_false, and_true]
      refine RT.done hQ ⟨?_, sc⟩
      rcases hc with ⟨c1, c2⟩ | ⟨p, p1, p2, p3, p4, p5, p6, p7⟩
      · refine Or.inl ⟨c1, fun p hp e => Bool.eq_false_iff.mpr (fun g => ?_)⟩
        have g2 := (goB_iff.mp g).2.1
        rw [c2 p hp e (by have := (wp.2.1 p hp).2.1; rw [e] at this; exact this)] at g2
        cases g2
      · refine Or.inr ⟨p, p1, p2, p3, goB_iff.mpr ⟨by rw [p3]; exact kk, p5, fun q hq e hq2 => ?_⟩⟩
        have := (wp.2.1 q hq).2.1
        rw [e, p3] at this
        exact p7 q hq (by rw [e, p3]) this hq2
    · intro n x l3 l4 z hx ⟨sc, hc⟩ hk
      show RT (f_X12_goerOf_L27 (nI b) (nI h) (nI (sz V h)) (n + 1) l3 l4 (nI x) z) _
      obtain ⟨y, y1, y2, y3⟩ := wp.at_ hx
      have yb := wp.2.1 y y1
      unfold f_X12_goerOf_L27
      simp (disch := omega) only [bnd_nr, li_0, li_1, li_2, li_3, li_4, li_5, li_6, li_7, li_8, li_9, li_10, li_11, li_12, li_13, li_14, li_15, li_16, li_17, li_18, li_19, li_20, li_21, li_22, li_23, li_24, li_25, li_26, li_27, li_28, li_29, li_30, li_31, li_32, li_33, li_34, li_35, li_36, li_37, li_38, li_39, li_40, li_41, li_42, li_43, li_44, li_45, li_46, li_47, li_48, li_49, li_50, li_51, li_52, li_53, li_54, li_55, li_56, li_57, li_58, li_59, li_60, li_61, li_62, li_63, li_64, li_74, li_86, li_87, li_88, li_96, li_97, li_98, li_99, li_100, li_101, li_102, li_103, li_104, li_105, li_107, li_108, li_109, li_110, li_111, li_112, li_114, li_115, li_116, li_117, li_118, li_121, li_122, li_124, li_136, li_148, li_160, li_680, li_200, li_201, li_255, li_700, li_950, li_1000, li_1400, li_3440, li_4096, li_9999, li_10000, li_20000, li_20033, li_20038, li_20124, li_32767, li_65535, li_1103515245, li_12345, li_m, sx_grd, sx_clamp, nI_add, sx_sub, pk_mul, sx_le, sx_lt, sx_eq, sx_eqm, sx_meq, sx_lem, sx_mle, sx_ltm, sx_mlt, sx_addm, sx_shl, sx_bit1, sx_bit0, fa_or, uA_s, uA_n, sA_s, sA_n, sx_uA, sx_uAn, sx_sAs, pk_us, pk_un, if_true, if_false, if_pos, if_neg, ob_some, Nat.add_zero, Nat.add_sub_cancel, eq_self, ne_eq, not_true, not_false_iff, false_or, true_or, or_false, or_true, false_and, true_and, and_false, and_true, m_whoAt (v.sc sc) wp hb y1 y2 y3, show z.1 40 = nI Hm from by rw [sc.1]; exact h40]
      have up1 : ∀ q, q < vn V → ho V q = h → pl V q < x + 1 → q = y ∨ pl V q < x := fun q hq e hl => by
        rcases Nat.lt_or_ge (pl V q) x with d | d
        · exact Or.inr d
        · exact Or.inl (wp.2.2.1 q y hq y1 (by rw [e, y2]) (by omega))
      refine RT.ite (fun c => ?_) (fun c => ?_)
      · refine hk _ _ _ ⟨sc, ?_⟩
        rcases hc with ⟨c1, c2⟩ | ⟨p, p1, p2, p3, p4, p5, p6, p7⟩
        · refine Or.inl ⟨c1, fun q hq e hl => ?_⟩
          rcases up1 q hq e hl with d | d
          · subst d; exact c
          · exact c2 q hq e d
        · refine Or.inr ⟨p, p1, p2, p3, by omega, p5, p6, fun q hq e hl hq2 => ?_⟩
          rcases up1 q hq e hl with d | d
          · subst d; rw [c] at hq2; cases hq2
          · exact p7 q hq e d hq2
      · have c : Hm.testBit y = false := ts_nt c
        refine RT.bind (m_picksBy (v.sc sc) wp hb k (by rw [sc.1]; exact hP.sc sc) y1) (fun q7 ⟨e7, sc7⟩ => ?_)
        have scf := sc.trans sc7
        rw [e7, show (if E.1.1 then wr E V y else nI (pl V y)) = wv E V y from rfl]
        rcases hc with ⟨c1, c2⟩ | ⟨p, p1, p2, p3, p4, p5, p6, p7⟩
        · subst c1
          refine RT.itT rfl ?_
          refine hk _ _ _ ⟨scf, Or.inr ⟨y, y1, rfl, y2, by omega, c, rfl, fun q hq e hl hq2 => ?_⟩⟩
          rcases up1 q hq e hl with d | d
          · subst d; exact bts_refl _
          · rw [c2 q hq e d] at hq2; cases hq2
        · subst p2; subst p6
          have pb := wp.2.1 p p1
          have sp := sz_le V (ho V p)
          have sy := sz_le V (ho V y)
          have le := wv_le (E := E) (V := V) (p := p) (q := y) (by omega) (by omega) (by omega)
          simp (disch := omega) only [bnd_nr, li_0, li_1, li_2, li_3, li_4, li_5, li_6, li_7, li_8, li_9, li_10, li_11, li_12, li_13, li_14, li_15, li_16, li_17, li_18, li_19, li_20, li_21, li_22, li_23, li_24, li_25, li_26, li_27, li_28, li_29, li_30, li_31, li_32, li_33, li_34, li_35, li_36, li_37, li_38, li_39, li_40, li_41, li_42, li_43, li_44, li_45, li_46, li_47, li_48, li_49, li_50, li_51, li_52, li_53, li_54, li_55, li_56, li_57, li_58, li_59, li_60, li_61, li_62, li_63, li_64, li_74, li_86, li_87, li_88, li_96, li_97, li_98, li_99, li_100, li_101, li_102, li_103, li_104, li_105, li_107, li_108, li_109, li_110, li_111, li_112, li_114, li_115, li_116, li_117, li_118, li_121, li_122, li_124, li_136, li_148, li_160, li_680, li_200, li_201, li_255, li_700, li_950, li_1000, li_1400, li_3440, li_4096, li_9999, li_10000, li_20000, li_20033, li_20038, li_20124, li_32767, li_65535, li_1103515245, li_12345, li_m, sx_grd, sx_clamp, nI_add, sx_sub, pk_mul, sx_le, sx_lt, sx_eq, sx_eqm, sx_meq, sx_lem, sx_mle, sx_ltm, sx_mlt, sx_addm, sx_shl, sx_bit1, sx_bit0, fa_or, uA_s, uA_n, sA_s, sA_n, sx_uA, sx_uAn, sx_sAs, pk_us, pk_un, if_true, if_false, if_pos, if_neg, ob_some, Nat.add_zero, Nat.add_sub_cancel, eq_self, ne_eq, not_true, not_false_iff, false_or, true_or, or_false, or_true, false_and, true_and, and_false, and_true]
          refine RT.ite (fun d => ?_) (fun d => ?_)
          · refine hk _ _ _ ⟨scf, Or.inr ⟨y, y1, rfl, y2, by omega, c, rfl, fun q hq e hl hq2 => ?_⟩⟩
            rcases up1 q hq e hl with d2 | d2
            · subst d2; exact bts_refl _
            · have a1 := bts_iff.mp (le.1 d)
              have a2 := bts_iff.mp (p7 q hq e d2 hq2)
              exact bts_iff.mpr (by omega)
          · refine hk _ _ _ ⟨scf, Or.inr ⟨p, p1, rfl, p3, by omega, p5, rfl, fun q hq e hl hq2 => ?_⟩⟩
            rcases up1 q hq e hl with d2 | d2
            · subst d2; exact le.2 d
            · exact p7 q hq e d2 hq2
  · refine RT.itF (by decide) (RT.done hQ ⟨Or.inl ⟨rfl, fun p hp e => Bool.eq_false_iff.mpr (fun g => ?_)⟩, sc1⟩)
    have := (goB_iff.mp g).1
    rw [e, kk] at this; cases this
/-- a storm: nobody goes -/
theorem m_storm {M : MS} {b h : Nat} {V : VT} (hs : M.1 39 = 1) : RT (f_X12_goerOf M (nI b) (nI h)) (fun q => GR (fun _ => false) V h q.1 ∧ SC M q.2) := by
  refine RT.cps (fun Q hQ => ?_)
  unfold f_X12_goerOf f_X12_staysIn
  rw [hs]
  exact RT.done hQ ⟨Or.inl ⟨rfl, fun _ _ _ => rfl⟩, SC.refl M⟩
