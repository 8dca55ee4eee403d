/-! frames of the reference -/
def scI (k : Nat) : Bool := decide (k = 41) || decide (k = 52)
def scA (j : Nat) : Bool := (decide (12 ≤ j) && decide (j ≤ 19)) || (decide (j = 21) || decide (j = 22))
def QF (M r : MS) : Prop := (∀ k, scI k = false → r.1 k = M.1 k) ∧ r.2.1 = M.2.1 ∧ (∀ j, j ≠ 10 → scA j = false → r.2.2 j = M.2.2 j) ∧ ∀ i, i < 86 → r.2.2 10 i = M.2.2 10 i
theorem QF.refl (M : MS) : QF M M := ⟨fun _ _ => rfl, rfl, fun _ _ _ => rfl, fun _ _ => rfl⟩
theorem QF.trans {M N P : MS} (h : QF M N) (k : QF N P) : QF M P := ⟨fun i hi => (k.1 i hi).trans (h.1 i hi), k.2.1.trans h.2.1, fun j a b => (k.2.2.1 j a b).trans (h.2.2.1 j a b), fun i hi => (k.2.2.2 i hi).trans (h.2.2.2 i hi)⟩
def EVF (M r : MS) : Prop := (∀ k, k ≠ 41 → r.1 k = M.1 k) ∧ r.2.1 = M.2.1 ∧ (∀ j, j ≠ 10 → j ≠ 12 → j ≠ 13 → j ≠ 14 → r.2.2 j = M.2.2 j) ∧ ∀ i, i < 86 → r.2.2 10 i = M.2.2 10 i
theorem EVF.refl (M : MS) : EVF M M := ⟨fun _ _ => rfl, rfl, fun _ _ _ _ _ => rfl, fun _ _ => rfl⟩
theorem EVF.trans {M N P : MS} (h : EVF M N) (k : EVF N P) : EVF M P := ⟨fun i hi => (k.1 i hi).trans (h.1 i hi), k.2.1.trans h.2.1, fun j a b c d => (k.2.2.1 j a b c d).trans (h.2.2.1 j a b c d), fun i hi => (k.2.2.2 i hi).trans (h.2.2.2 i hi)⟩
theorem scI_41 {k : Nat} (h : scI k = false) : True ∧ k ≠ 41 ∧ k ≠ 52 := by
  unfold scI at h
  simp only [Bool.or_eq_false_iff, decide_eq_false_iff_not] at h
  exact ⟨trivial, h.1, h.2⟩
theorem scA_ne {j : Nat} (h : scA j = false) : (j < 12 ∨ 19 < j) ∧ j ≠ 21 ∧ j ≠ 22 := by
  unfold scA at h
  simp only [Bool.or_eq_false_iff, Bool.and_eq_false_iff, decide_eq_false_iff_not] at h
  omega
theorem EVF.qf {M r : MS} (h : EVF M r) : QF M r := ⟨fun k hk => h.1 k (scI_41 hk).2.1, h.2.1, fun j h1 h2 => by
  have := scA_ne h2
  exact h.2.2.1 j h1 (by omega) (by omega) (by omega), h.2.2.2⟩
theorem QS.qf {M r : MS} (h : QS M r) : QF M r := ⟨fun k _ => by rw [h.1], h.2.1, fun j _ h2 => by
  have := scA_ne h2
  exact h.2.2 j (by omega), fun i _ => by rw [h.2.2 10 (by omega)]⟩
theorem SC.qf {M r : MS} (h : SC M r) : QF M r := ⟨fun k _ => by rw [h.1], h.2.1, fun j _ h2 => by
  have := scA_ne h2
  exact h.2.2 j (by omega) (by omega), fun i _ => by rw [h.2.2 10 (by omega) (by omega)]⟩
theorem VM.qf {M r : MS} {V : VT} (v : VM M 0 V) (w : WFV V) (q : QF M r) : VM r 0 V := by
  have := w.hn
  have := w.1.1
  refine ⟨by rw [q.1 1 (by decide)]; exact v.1, v.2.copy (by omega) (by omega) (fun k hk => ?_)⟩
  rw [Nat.zero_add]; exact q.2.2.2 k hk
/-- the reference's rules, no storm, nobody hides -/
def EC (E : RE) (M : MS) : Prop := RMo M (M.1 3) E.1 ∧ RMo M (M.1 4) E.2 ∧ M.1 39 = 0 ∧ M.1 40 = 0
theorem EC.qf {E : RE} {M r : MS} (e : EC E M) (q : QF M r) : EC E r := by
  unfold EC
  rw [q.1 3 (by decide), q.1 4 (by decide), q.1 39 (by decide), q.1 40 (by decide)]
  have a := q.2.2.1 2 (by omega) (by decide)
  exact ⟨RMo_of a e.1, RMo_of a e.2.1, e.2.2⟩
def nh : Nat → Bool := Nat.testBit 0
def gN (E : RE) (V : VT) : Nat → Bool := goB E nh V
def eN (E : RE) (V : VT) : VT := evV (gN E V) V
def It (E : RE) (V : VT) : Nat → VT | 0 => V | k + 1 => eN E (It E V k)
theorem It_wf {E : RE} {V : VT} (w : WFV V) : ∀ k, ve V + k ≤ 20000 → WFV (It E V k) ∧ ve (It E V k) = ve V + k ∧ vn (It E V k) = vn V
  | 0, _ => ⟨w, rfl, rfl⟩
  | k + 1, h => by
    obtain ⟨a, b, c⟩ := It_wf (E := E) w k (by omega)
    refine ⟨WFV_ev a (GOK_go a.1) (by omega), ?_, ?_⟩
    · show ve (It E V k) + 1 = _
      omega
    · show vn (It E V k) = _
      exact c
/-- names of houses don't matter -/
theorem It_id {E : RE} {V : VT} {f : Nat → Int32} : ∀ k, ∃ g, It E (idV V f) k = idV (It E V k) g
  | 0 => ⟨f, rfl⟩
  | k + 1 => by
    obtain ⟨g, e⟩ := It_id (E := E) (V := V) (f := f) k
    refine ⟨idd (eN E (idV (It E V k) g)), ?_⟩
    rw [It, e]
    rfl
theorem goes_rw {M : MS} {b : Nat} {E : RE} {V : VT} {Hm : Nat} (v : VM M b V) (w : WFV V) (hb : b ≤ 86) (k : EOK E) (hP : RMo M (M.1 3) E.1) (hK : RMo M (M.1 4) E.2) (hs : M.1 39 = 0) (h40 : M.1 40 = nI Hm) (hm : Hm < 2147483648) : ∀ M' : MS, M'.1 = M.1 → M'.2.1 = M.2.1 → (∀ j, j ≠ 12 → j ≠ 13 → j ≠ 14 → M'.2.2 j = M.2.2 j) → ∀ h, h < vh V → RT (f_X12_goerOf M' (nI b) (nI h)) (fun q => GR (goB E Hm.testBit V) V h q.1 ∧ SC M' q.2) := by
  intro M' e1 _ e3 h hh9
  have a := e3 2 (by omega) (by omega) (by omega)
  exact m_goerOf (VM_of (by rw [e1]) (e3 10 (by omega) (by omega) (by omega)) v) w hb k (by rw [e1]; exact RMo_of a hP) (by rw [e1]; exact RMo_of a hK) (by rw [e1]; exact hs) (by rw [e1]; exact h40) hm hh9
theorem m_evB {M : MS} {b : Nat} {G : Nat → Bool} {V : VT} (v : VM M b V) (w : WFV V) (hb : b ≤ 86) (g : GOK G V) (he : ve V < 20000) (hG : ∀ M' : MS, M'.1 = M.1 → M'.2.1 = M.2.1 → (∀ j, j ≠ 12 → j ≠ 13 → j ≠ 14 → M'.2.2 j = M.2.2 j) → ∀ h, h < vh V → RT (f_X12_goerOf M' (nI b) (nI h)) (fun q => GR G V h q.1 ∧ SC M' q.2)) : RT (f_X12_eveningGoes M (nI b)) (fun r => ((∀ k, k ≠ 40 → k ≠ 41 → r.1 k = M.1 k) ∧ r.1 40 = 0 ∧ r.1 41 = nI (msk G (vn V))) ∧ r.2.1 = M.2.1 ∧ (∀ j, j ≠ 10 → j ≠ 12 → j ≠ 13 → j ≠ 14 → r.2.2 j = M.2.2 j) ∧ VM r b (evV G V) ∧ ∀ i, (i < b ∨ b + 86 ≤ i) → r.2.2 10 i = M.2.2 10 i) := by
  have w2 := WFV_ev w g he
  have hn2 := w2.hn
  have b2 := w2.1.1
  refine (m_evening v w hb g hG).weak (fun r ⟨r1, r2, r3, X, x1, x2⟩ => ⟨⟨fun k k1 k2 => ?_, ?_, ?_⟩, r2, r3, ⟨?_, ?_⟩, fun i hi => ?_⟩)
  · rw [r1, pk_un k2, pk_un k1]
  · rw [r1, pk_un (by omega), pk_us]
  · rw [r1, pk_us]
  · rw [r1, pk_un (by omega), pk_un (by omega)]; exact v.1
  · rw [x1]; exact (XP_iff b2.1 (by omega)).mpr x2
  · rw [x1, rowf_out hi]
theorem m_ev86 {M : MS} {E : RE} {V : VT} (v : VM M 86 V) (w : WFV V) (ec : EC E M) (k : EOK E) (he : ve V < 20000) : RT (f_X12_eveningGoes M (nI 86)) (fun r => EVF M r ∧ r.1 41 = nI (msk (gN E V) (vn V)) ∧ VM r 86 (eN E V)) := by
  refine (m_evB v w (by omega) (GOK_go (E := E) (H := nh) w.1) he (goes_rw (Hm := 0) v w (by omega) k ec.1 ec.2.1 ec.2.2.1 ec.2.2.2 (by omega))).weak (fun r ⟨⟨r1, r2, r3⟩, r4, r5, r6, r7⟩ => ⟨⟨fun j hj => ?_, r4, r5, fun i hi => r7 i (Or.inl hi)⟩, r3, r6⟩)
  by_cases q : j = 40
  · subst q; rw [r2]; exact ec.2.2.2.symm
  · exact r1 j q hj
theorem m_ev0 {M : MS} {E : RE} {V : VT} (v : VM M 0 V) (w : WFV V) (ec : EC E M) (k : EOK E) (he : ve V < 20000) : RT (f_X12_eveningGoes M (nI 0)) (fun r => (∀ k, k ≠ 41 → r.1 k = M.1 k) ∧ r.2.1 = M.2.1 ∧ (∀ j, j ≠ 10 → j ≠ 12 → j ≠ 13 → j ≠ 14 → r.2.2 j = M.2.2 j) ∧ VM r 0 (eN E V)) := by
  refine (m_evB v w (by omega) (GOK_go (E := E) (H := nh) w.1) he (goes_rw (Hm := 0) v w (by omega) k ec.1 ec.2.1 ec.2.2.1 ec.2.2.2 (by omega))).weak (fun r ⟨⟨r1, r2, r3⟩, r4, r5, r6, r7⟩ => ⟨fun j hj => ?_, r4, r5, r6⟩)
  by_cases q : j = 40
  · subst q; rw [r2]; exact ec.2.2.2.symm
  · exact r1 j q hj
theorem m_tries {M : MS} {V : VT} (v : VM M 0 V) (w : WFV V) : RT (f_X12_tries M) (fun r => EVF M r ∧ r.1 41 = M.1 41 ∧ VM r 86 (idV V nI)) := by
  have hn := w.hn
  have b0 := w.1.1
  refine RT.cps (fun Q hQ => ?_)
  unfold f_X12_tries
  refine RT.loop0 (fun n i (z : MS) => f_X12_tries_L2 n (nI i) z) 86 (fun i z => z = (M.1, M.2.1, sA M.2.2 10 (fb_put (M.2.2 10) (M.2.2 10) 86 i))) _ _ (by omega) ?_ ?_ ?_
  · rw [fb_put_0, sA_self]
  · intro n z ez; subst ez
    show RT (f_X12_tries_L2 (n + 1) (nI 86) _) _
    unfold f_X12_tries_L2
    simp (disch := omega) only [bnd_nr, li_0, li_1, li_2, li_3, li_4, li_5, li_6, li_7, li_8, li_9, li_10, li_11, li_12, li_13, li_14, li_15, li_16, li_17, li_18, li_19, li_20, li_21, li_22, li_23, li_24, li_25, li_26, li_27, li_28, li_29, li_30, li_31, li_32, li_33, li_34, li_35, li_36, li_37, li_38, li_39, li_40, li_41, li_42, li_43, li_44, li_45, li_46, li_47, li_48, li_49, li_50, li_51, li_52, li_53, li_54, li_55, li_56, li_57, li_58, li_59, li_60, li_61, li_62, li_63, li_64, li_74, li_86, li_87, li_88, li_96, li_97, li_98, li_99, li_100, li_101, li_102, li_103, li_104, li_105, li_107, li_108, li_109, li_110, li_111, li_112, li_114, li_115, li_116, li_117, li_118, li_121, li_122, li_124, li_136, li_148, li_160, li_680, li_200, li_201, li_255, li_700, li_950, li_1000, li_1400, li_3440, li_4096, li_9999, li_10000, li_20000, li_20033, li_20038, li_20124, li_32767, li_65535, li_1103515245, li_12345, li_m, sx_grd, sx_clamp, nI_add, sx_sub, pk_mul, sx_le, sx_lt, sx_eq, sx_eqm, sx_meq, sx_lem, sx_mle, sx_ltm, sx_mlt, sx_addm, sx_shl, sx_bit1, sx_bit0, fa_or, uA_s, uA_n, sA_s, sA_n, sx_uA, sx_uAn, sx_sAs, pk_us, pk_un, if_true, if_false, if_pos, if_neg, ob_some, Nat.add_zero, Nat.add_sub_cancel, eq_self, ne_eq, not_true, not_false_iff, false_or, true_or, or_false, or_true, false_and, true_and, and_false, and_true]
    refine RT.loop0 (fun n i (z : MS) => f_X12_tries_L31 n (nI i) z) 12 (fun i z => z = (M.1, M.2.1, sA M.2.2 10 (fb_put (fb_put (M.2.2 10) (M.2.2 10) 86 86) nI 160 i))) _ _ (by omega) ?_ ?_ ?_
    · rw [fb_put_0]
    · intro n z ez; subst ez
      show RT (f_X12_tries_L31 (n + 1) (nI 12) _) _
      unfold f_X12_tries_L31
      simp (disch := omega) only [bnd_nr, li_0, li_1, li_2, li_3, li_4, li_5, li_6, li_7, li_8, li_9, li_10, li_11, li_12, li_13, li_14, li_15, li_16, li_17, li_18, li_19, li_20, li_21, li_22, li_23, li_24, li_25, li_26, li_27, li_28, li_29, li_30, li_31, li_32, li_33, li_34, li_35, li_36, li_37, li_38, li_39, li_40, li_41, li_42, li_43, li_44, li_45, li_46, li_47, li_48, li_49, li_50, li_51, li_52, li_53, li_54, li_55, li_56, li_57, li_58, li_59, li_60, li_61, li_62, li_63, li_64, li_74, li_86, li_87, li_88, li_96, li_97, li_98, li_99, li_100, li_101, li_102, li_103, li_104, li_105, li_107, li_108, li_109, li_110, li_111, li_112, li_114, li_115, li_116, li_117, li_118, li_121, li_122, li_124, li_136, li_148, li_160, li_680, li_200, li_201, li_255, li_700, li_950, li_1000, li_1400, li_3440, li_4096, li_9999, li_10000, li_20000, li_20033, li_20038, li_20124, li_32767, li_65535, li_1103515245, li_12345, li_m, sx_grd, sx_clamp, nI_add, sx_sub, pk_mul, sx_le, sx_lt, sx_eq, sx_eqm, sx_meq, sx_lem, sx_mle, sx_ltm, sx_mlt, sx_addm, sx_shl, sx_bit1, sx_bit0, fa_or, uA_s, uA_n, sA_s, sA_n, sx_uA, sx_uAn, sx_sAs, pk_us, pk_un, if_true, if_false, if_pos, if_neg, ob_some, Nat.add_zero, Nat.add_sub_cancel, eq_self, ne_eq, not_true, not_false_iff, false_or, true_or, or_false, or_true, false_and, true_and, and_false, and_true]
      have rd : ∀ x, x < 74 → fb_put (fb_put (M.2.2 10) (M.2.2 10) 86 86) nI 160 12 (86 + x) = M.2.2 10 x := fun x hx => by
        rw [fb_put_out (by omega), fb_put_in (by omega) (by omega), show 86 + x - 86 = x by omega]
      have rd2 : ∀ a x, a + x < 74 → fb_put (fb_put (M.2.2 10) (M.2.2 10) 86 86) nI 160 12 (86 + a + x) = M.2.2 10 (0 + a + x) := fun a x hx => by
        rw [Nat.add_assoc, rd _ hx, show 0 + a + x = a + x by omega]
      refine RT.done hQ ⟨⟨fun _ _ => rfl, rfl, fun j j1 _ _ _ => by simp only [sA_n j1], fun i hi => ?_⟩, rfl, v.1, ?_⟩
      · simp only [sA_s]
        rw [fb_put_out (by omega), fb_put_out (by omega)]
      · simp only [sA_s]
        refine ⟨⟨?_, ?_⟩, fun p hp => ?_, fun h hh => ?_⟩
        · exact (rd 0 (by omega)).trans v.e
        · exact (rd 1 (by omega)).trans v.n
        · have hp : p < vn V := hp
          rw [rd2 2 p (by omega), rd2 14 p (by omega), rd2 26 p (by omega), rd2 38 p (by omega), rd2 50 p (by omega)]
          exact v.2.2.1 p hp
        · have hh : h < vh V := hh
          rw [rd2 62 h (by omega)]
          refine ⟨(v.2.2.2 h hh).1, ?_⟩
          rw [fb_put_in (by omega) (by omega)]
          show nI (86 + 74 + h - 160) = nI h
          exact congrArg nI (by omega)
    · intro n i z hi ez hk; subst ez
      show RT (f_X12_tries_L31 (n + 1) (nI i) _) _
      unfold f_X12_tries_L31
      simp (disch := omega) only [bnd_nr, li_0, li_1, li_2, li_3, li_4, li_5, li_6, li_7, li_8, li_9, li_10, li_11, li_12, li_13, li_14, li_15, li_16, li_17, li_18, li_19, li_20, li_21, li_22, li_23, li_24, li_25, li_26, li_27, li_28, li_29, li_30, li_31, li_32, li_33, li_34, li_35, li_36, li_37, li_38, li_39, li_40, li_41, li_42, li_43, li_44, li_45, li_46, li_47, li_48, li_49, li_50, li_51, li_52, li_53, li_54, li_55, li_56, li_57, li_58, li_59, li_60, li_61, li_62, li_63, li_64, li_74, li_86, li_87, li_88, li_96, li_97, li_98, li_99, li_100, li_101, li_102, li_103, li_104, li_105, li_107, li_108, li_109, li_110, li_111, li_112, li_114, li_115, li_116, li_117, li_118, li_121, li_122, li_124, li_136, li_148, li_160, li_680, li_200, li_201, li_255, li_700, li_950, li_1000, li_1400, li_3440, li_4096, li_9999, li_10000, li_20000, li_20033, li_20038, li_20124, li_32767, li_65535, li_1103515245, li_12345, li_m, sx_grd, sx_clamp, nI_add, sx_sub, pk_mul, sx_le, sx_lt, sx_eq, sx_eqm, sx_meq, sx_lem, sx_mle, sx_ltm, sx_mlt, sx_addm, sx_shl, sx_bit1, sx_bit0, fa_or, uA_s, uA_n, sA_s, sA_n, sx_uA, sx_uAn, sx_sAs, pk_us, pk_un, if_true, if_false, if_pos, if_neg, ob_some, Nat.add_zero, Nat.add_sub_cancel, eq_self, ne_eq, not_true, not_false_iff, false_or, true_or, or_false, or_true, false_and, true_and, and_false, and_true]
      refine hk _ ?_
      rw [fb_put_succ]
  · intro n i z hi ez hk; subst ez
    show RT (f_X12_tries_L2 (n + 1) (nI i) _) _
    unfold f_X12_tries_L2
    simp (disch := omega) only [bnd_nr, li_0, li_1, li_2, li_3, li_4, li_5, li_6, li_7, li_8, li_9, li_10, li_11, li_12, li_13, li_14, li_15, li_16, li_17, li_18, li_19, li_20, li_21, li_22, li_23, li_24, li_25, li_26, li_27, li_28, li_29, li_30, li_31, li_32, li_33, li_34, li_35, li_36, li_37, li_38, li_39, li_40, li_41, li_42, li_43, li_44, li_45, li_46, li_47, li_48, li_49, li_50, li_51, li_52, li_53, li_54, li_55, li_56, li_57, li_58, li_59, li_60, li_61, li_62, li_63, li_64, li_74, li_86, li_87, li_88, li_96, li_97, li_98, li_99, li_100, li_101, li_102, li_103, li_104, li_105, li_107, li_108, li_109, li_110, li_111, li_112, li_114, li_115, li_116, li_117, li_118, li_121, li_122, li_124, li_136, li_148, li_160, li_680, li_200, li_201, li_255, li_700, li_950, li_1000, li_1400, li_3440, li_4096, li_9999, li_10000, li_20000, li_20033, li_20038, li_20124, li_32767, li_65535, li_1103515245, li_12345, li_m, sx_grd, sx_clamp, nI_add, sx_sub, pk_mul, sx_le, sx_lt, sx_eq, sx_eqm, sx_meq, sx_lem, sx_mle, sx_ltm, sx_mlt, sx_addm, sx_shl, sx_bit1, sx_bit0, fa_or, uA_s, uA_n, sA_s, sA_n, sx_uA, sx_uAn, sx_sAs, pk_us, pk_un, if_true, if_false, if_pos, if_neg, ob_some, Nat.add_zero, Nat.add_sub_cancel, eq_self, ne_eq, not_true, not_false_iff, false_or, true_or, or_false, or_true, false_and, true_and, and_false, and_true, fb_put_out]
    refine hk _ ?_
    rw [fb_put_succ]
theorem m_eveningsGo {M : MS} {E : RE} {V : VT} (v : VM M 86 V) (w : WFV V) (ec : EC E M) (k : EOK E) {n : Nat} (hn : n ≤ 200) (he : ve V + n ≤ 20000) : RT (f_X12_eveningsGo M (nI n)) (fun r => EVF M r ∧ VM r 86 (It E V n)) := by
  refine RT.cps (fun Q hQ => ?_)
  unfold f_X12_eveningsGo
  refine RT.loop0 (fun m i (z : MS) => f_X12_eveningsGo_L2 (nI n) m (nI i) z) n (fun i z => EVF M z ∧ VM z 86 (It E V i)) _ _ (by omega) ⟨EVF.refl M, v⟩ ?_ ?_
  · intro m z hz
    show RT (f_X12_eveningsGo_L2 (nI n) (m + 1) (nI n) z) _
    unfold f_X12_eveningsGo_L2
    simp (disch := omega) only [bnd_nr, li_0, li_1, li_2, li_3, li_4, li_5, li_6, li_7, li_8, li_9, li_10, li_11, li_12, li_13, li_14, li_15, li_16, li_17, li_18, li_19, li_20, li_21, li_22, li_23, li_24, li_25, li_26, li_27, li_28, li_29, li_30, li_31, li_32, li_33, li_34, li_35, li_36, li_37, li_38, li_39, li_40, li_41, li_42, li_43, li_44, li_45, li_46, li_47, li_48, li_49, li_50, li_51, li_52, li_53, li_54, li_55, li_56, li_57, li_58, li_59, li_60, li_61, li_62, li_63, li_64, li_74, li_86, li_87, li_88, li_96, li_97, li_98, li_99, li_100, li_101, li_102, li_103, li_104, li_105, li_107, li_108, li_109, li_110, li_111, li_112, li_114, li_115, li_116, li_117, li_118, li_121, li_122, li_124, li_136, li_148, li_160, li_680, li_200, li_201, li_255, li_700, li_950, li_1000, li_1400, li_3440, li_4096, li_9999, li_10000, li_20000, li_20033, li_20038, li_20124, li_32767, li_65535, li_1103515245, li_12345, li_m, sx_grd, sx_clamp, nI_add, sx_sub, pk_mul, sx_le, sx_lt, sx_eq, sx_eqm, sx_meq, sx_lem, sx_mle, sx_ltm, sx_mlt, sx_addm, sx_shl, sx_bit1, sx_bit0, fa_or, uA_s, uA_n, sA_s, sA_n, sx_uA, sx_uAn, sx_sAs, pk_us, pk_un, if_true, if_false, if_pos, if_neg, ob_some, Nat.add_zero, Nat.add_sub_cancel, eq_self, ne_eq, not_true, not_false_iff, false_or, true_or, or_false, or_true, false_and, true_and, and_false, and_true]
    exact RT.done hQ hz
  · intro m i z hi ⟨z1, z2⟩ hk
    show RT (f_X12_eveningsGo_L2 (nI n) (m + 1) (nI i) z) _
    obtain ⟨a, b, c⟩ := It_wf (E := E) w i (by omega)
    unfold f_X12_eveningsGo_L2
    simp (disch := omega) only [bnd_nr, li_0, li_1, li_2, li_3, li_4, li_5, li_6, li_7, li_8, li_9, li_10, li_11, li_12, li_13, li_14, li_15, li_16, li_17, li_18, li_19, li_20, li_21, li_22, li_23, li_24, li_25, li_26, li_27, li_28, li_29, li_30, li_31, li_32, li_33, li_34, li_35, li_36, li_37, li_38, li_39, li_40, li_41, li_42, li_43, li_44, li_45, li_46, li_47, li_48, li_49, li_50, li_51, li_52, li_53, li_54, li_55, li_56, li_57, li_58, li_59, li_60, li_61, li_62, li_63, li_64, li_74, li_86, li_87, li_88, li_96, li_97, li_98, li_99, li_100, li_101, li_102, li_103, li_104, li_105, li_107, li_108, li_109, li_110, li_111, li_112, li_114, li_115, li_116, li_117, li_118, li_121, li_122, li_124, li_136, li_148, li_160, li_680, li_200, li_201, li_255, li_700, li_950, li_1000, li_1400, li_3440, li_4096, li_9999, li_10000, li_20000, li_20033, li_20038, li_20124, li_32767, li_65535, li_1103515245, li_12345, li_m, sx_grd, sx_clamp, nI_add, sx_sub, pk_mul, sx_le, sx_lt, sx_eq, sx_eqm, sx_meq, sx_lem, sx_mle, sx_ltm, sx_mlt, sx_addm, sx_shl, sx_bit1, sx_bit0, fa_or, uA_s, uA_n, sA_s, sA_n, sx_uA, sx_uAn, sx_sAs, pk_us, pk_un, if_true, if_false, if_pos, if_neg, ob_some, Nat.add_zero, Nat.add_sub_cancel, eq_self, ne_eq, not_true, not_false_iff, false_or, true_or, or_false, or_true, false_and, true_and, and_false, and_true]
    refine RT.bind (m_ev86 z2 a (ec.qf z1.qf) k (by omega)) (fun q ⟨q1, q2, q3⟩ => hk _ ⟨z1.trans q1, q3⟩)
theorem m_goesTo {M : MS} {E : RE} {V : VT} (v : VM M 0 V) (w : WFV V) (ec : EC E M) (k : EOK E) {n : Nat} (hn : n ≤ 200) (he : ve V + n ≤ 20000) : RT (f_X12_goesTo M (nI n)) (fun r => EVF M r ∧ VM r 86 (It E (idV V nI) n)) := by
  refine RT.cps (fun Q hQ => ?_)
  unfold f_X12_goesTo
  refine RT.bind (m_tries v w) (fun r ⟨r1, r2, r3⟩ => ?_)
  refine RT.bind (m_eveningsGo r3 (w.idv nI) (ec.qf r1.qf) k hn he) (fun q ⟨q1, q2⟩ => RT.done hQ ⟨r1.trans q1, q2⟩)
