theorem RT.down {σ α : Type} (F : Nat → Nat → σ → Option α) (P : Nat → σ → Prop) (Q : α → Prop) (hs : ∀ n i a, P (i + 1) a → (∀ a', P i a' → RT (F n i a') Q) → RT (F (n + 1) (i + 1) a) Q) (hx : ∀ n a, P 0 a → RT (F (n + 1) 0 a) Q) : ∀ (n i : Nat) (a : σ), i < n → P i a → RT (F n i a) Q := by
  intro n
  induction n with
  | zero => intro i a h; exact absurd h (by omega)
  | succ n ih =>
    intro i a h hp
    cases i with
    | zero => exact hx n a hp
    | succ i => exact hs n i a hp (fun a' hp' => ih i a' (by omega) hp')
/-! sizes -/
/-- how many of the first h houses are of v or more -/
def Cn (V : VT) (h v : Nat) : Nat := fb_ct (fun k => decide (v ≤ sz V k)) h
def SS (s C : Nat → Nat) : Prop := ∀ k v, k < 12 → 1 ≤ v → (v ≤ s k ↔ k < C v)
theorem Cn_le (V : VT) (h v : Nat) : Cn V h v ≤ h := fb_ct_le _ _
theorem Cn_succ (V : VT) (h v : Nat) : Cn V (h + 1) v = Cn V h v + (if v ≤ sz V h then 1 else 0) := by
  unfold Cn
  rw [fb_ct_succ]
  simp only [decide_eq_true_eq]
theorem SS_ins {V : VT} {s : Nat → Nat} {h k : Nat} (ss : SS s (Cn V h)) (hh : h < 12) (hk : k ≤ h) (big : ∀ j, k ≤ j → j < h → s j < sz V h) (small : k = 0 ∨ sz V h ≤ s (k - 1)) (v0 : 1 ≤ sz V h) : SS (fun j => if j < k then s j else if j = k then sz V h else if j ≤ h then s (j - 1) else s j) (Cn V (h + 1)) := by
  intro j u hj hu
  rw [Cn_succ]
  have cl := Cn_le V h u
  by_cases c1 : j < k
  · simp only [if_pos c1]
    rw [ss j u hj hu]
    by_cases c2 : u ≤ sz V h
    · rw [if_pos c2]
      have sm : sz V h ≤ s (k - 1) := small.resolve_left (by omega)
      have := (ss (k - 1) u (by omega) hu).mp (by omega)
      omega
    · rw [if_neg c2]; omega
  · simp only [if_neg c1]
    by_cases c3 : j = k
    · simp only [if_pos c3]
      by_cases c2 : u ≤ sz V h
      · rw [if_pos c2]
        refine ⟨fun _ => ?_, fun _ => c2⟩
        rcases small with z | z
        · omega
        · by_cases k0 : k = 0
          · omega
          · have := (ss (k - 1) u (by omega) hu).mp (by omega)
            omega
      · rw [if_neg c2]
        refine ⟨fun z => absurd z c2, fun z => ?_⟩
        by_cases e : k = h
        · omega
        · have b := big k (by omega) (by omega)
          have := (ss k u (by omega) hu).mpr (by omega)
          omega
    · simp only [if_neg c3]
      by_cases c4 : j ≤ h
      · simp only [if_pos c4]
        rw [ss (j - 1) u (by omega) hu]
        by_cases c2 : u ≤ sz V h
        · rw [if_pos c2]; omega
        · rw [if_neg c2]
          have b := big (j - 1) (by omega) (by omega)
          have n1 : ¬ (j - 1 < Cn V h u) := fun z => by
            have := (ss (j - 1) u (by omega) hu).mpr z
            omega
          omega
      · simp only [if_neg c4]
        rw [ss j u hj hu]
        have : (if u ≤ sz V h then 1 else 0) ≤ 1 := by split <;> omega
        omega
theorem m_laysSizes {M : MS} {b : Nat} {V : VT} (v : VM M b V) (w : WFV V) (hb : b ≤ 86) : RT (f_X12_laysSizes M (nI b)) (fun r => r.1 = M.1 ∧ r.2.1 = M.2.1 ∧ (∀ j, j ≠ 15 → r.2.2 j = M.2.2 j) ∧ ∃ s : Nat → Nat, (∀ k, k < 12 → r.2.2 15 k = nI (s k) ∧ s k ≤ 12) ∧ SS s (Cn V (vh V))) := by
  refine RT.cps (fun Q hQ => ?_)
  have wp := w.1
  have b0 := wp.1
  have hn := w.hn
  unfold f_X12_laysSizes
  refine RT.loop0 (fun n i (z : MS) => f_X12_laysSizes_L2 (nI b) n (nI i) z) 12 (fun i z => z.1 = M.1 ∧ z.2.1 = M.2.1 ∧ (∀ j, j ≠ 15 → z.2.2 j = M.2.2 j) ∧ ∀ k, k < i → z.2.2 15 k = nI 0) _ _ (by omega) ⟨rfl, rfl, fun _ _ => rfl, fun k hk => absurd hk (Nat.not_lt_zero _)⟩ ?_ ?_
  · intro n z ⟨e1, e2, e3, e4⟩
    show RT (f_X12_laysSizes_L2 (nI b) (n + 1) (nI 12) z) _
    unfold f_X12_laysSizes_L2
    simp (disch := omega) only [bnd_nr, li_0, li_1, li_2, li_3, li_4, li_5, li_6, li_7, li_8, li_9, li_10, li_11, li_12, li_13, li_14, li_15, li_16, li_17, li_18, li_19, li_20, li_21, li_22, li_23, li_24, li_25, li_26, li_27, li_28, li_29, li_30, li_31, li_32, li_33, li_34, li_35, li_36, li_37, li_38, li_39, li_40, li_41, li_42, li_43, li_44, li_45, li_46, li_47, li_48, li_49, li_50, li_51, li_52, li_53, li_54, li_55, li_56, li_57, li_58, li_59, li_60, li_61, li_62, li_63, li_64, li_74, li_86, li_87, li_88, li_96, li_97, li_98, li_99, li_100, li_101, li_102, li_103, li_104, li_105, li_107, li_108, li_109, li_110, li_111, li_112, li_114, li_115, li_116, li_117, li_118, li_121, li_122, li_124, li_136, li_148, li_160, li_680, li_200, li_201, li_255, li_700, li_950, li_1000, li_1400, li_3440, li_4096, li_9999, li_10000, li_20000, li_20033, li_20038, li_20124, li_32767, li_65535, li_1103515245, li_12345, li_m, sx_grd, sx_clamp, nI_add, sx_sub, pk_mul, sx_le, sx_lt, sx_eq, sx_eqm, sx_meq, sx_lem, sx_mle, sx_ltm, sx_mlt, sx_addm, sx_shl, sx_bit1, sx_bit0, fa_or, uA_s, uA_n, sA_s, sA_n, sx_uA, sx_uAn, sx_sAs, pk_us, pk_un, if_true, if_false, if_pos, if_neg, ob_some, Nat.add_zero, Nat.add_sub_cancel, eq_self, ne_eq, not_true, not_false_iff, false_or, true_or, or_false, or_true, false_and, true_and, and_false, and_true]
    refine RT.loop0 (fun n i (z : MS) => f_X12_laysSizes_L23 (nI b) n (nI i) z) (vh V) (fun h z => z.1 = M.1 ∧ z.2.1 = M.2.1 ∧ (∀ j, j ≠ 15 → z.2.2 j = M.2.2 j) ∧ ∃ s : Nat → Nat, (∀ k, k < 12 → z.2.2 15 k = nI (s k) ∧ s k ≤ 12) ∧ SS s (Cn V h)) _ _ (by omega) ?_ ?_ ?_
    · refine ⟨e1, e2, e3, fun _ => 0, fun k hk => ⟨e4 k hk, Nat.zero_le _⟩, fun k u _ hu => ?_⟩
      have : Cn V 0 u = 0 := rfl
      show u ≤ 0 ↔ k < Cn V 0 u
      omega
    · intro n z ⟨e1, e2, e3, s, s1, s2⟩
      show RT (f_X12_laysSizes_L23 (nI b) (n + 1) (nI (vh V)) z) _
      have vz : VM z b V := VM_of (by rw [e1]) (e3 10 (by omega)) v
      unfold f_X12_laysSizes_L23
      simp (disch := omega) only [bnd_nr, li_0, li_1, li_2, li_3, li_4, li_5, li_6, li_7, li_8, li_9, li_10, li_11, li_12, li_13, li_14, li_15, li_16, li_17, li_18, li_19, li_20, li_21, li_22, li_23, li_24, li_25, li_26, li_27, li_28, li_29, li_30, li_31, li_32, li_33, li_34, li_35, li_36, li_37, li_38, li_39, li_40, li_41, li_42, li_43, li_44, li_45, li_46, li_47, li_48, li_49, li_50, li_51, li_52, li_53, li_54, li_55, li_56, li_57, li_58, li_59, li_60, li_61, li_62, li_63, li_64, li_74, li_86, li_87, li_88, li_96, li_97, li_98, li_99, li_100, li_101, li_102, li_103, li_104, li_105, li_107, li_108, li_109, li_110, li_111, li_112, li_114, li_115, li_116, li_117, li_118, li_121, li_122, li_124, li_136, li_148, li_160, li_680, li_200, li_201, li_255, li_700, li_950, li_1000, li_1400, li_3440, li_4096, li_9999, li_10000, li_20000, li_20033, li_20038, li_20124, li_32767, li_65535, li_1103515245, li_12345, li_m, sx_grd, sx_clamp, nI_add, sx_sub, pk_mul, sx_le, sx_lt, sx_eq, sx_eqm, sx_meq, sx_lem, sx_mle, sx_ltm, sx_mlt, sx_addm, sx_shl, sx_bit1, sx_bit0, fa_or, uA_s, uA_n, sA_s, sA_n, sx_uA, sx_uAn, sx_sAs, pk_us, pk_un, if_true, if_false, if_pos, if_neg, ob_some, Nat.add_zero, Nat.add_sub_cancel, eq_self, ne_eq, not_true, not_false_iff, false_or, true_or, or_false, or_true, false_and, true_and, and_false, and_true, vz.n]
      exact RT.done hQ ⟨e1, e2, e3, s, s1, s2⟩
    · intro n h z hh ⟨e1, e2, e3, s, s1, s2⟩ hk
      show RT (f_X12_laysSizes_L23 (nI b) (n + 1) (nI h) z) _
      have vz : VM z b V := VM_of (by rw [e1]) (e3 10 (by omega)) v
      have sp := w.2 h hh
      have sl := sz_le V h
      unfold f_X12_laysSizes_L23
      simp (disch := omega) only [bnd_nr, li_0, li_1, li_2, li_3, li_4, li_5, li_6, li_7, li_8, li_9, li_10, li_11, li_12, li_13, li_14, li_15, li_16, li_17, li_18, li_19, li_20, li_21, li_22, li_23, li_24, li_25, li_26, li_27, li_28, li_29, li_30, li_31, li_32, li_33, li_34, li_35, li_36, li_37, li_38, li_39, li_40, li_41, li_42, li_43, li_44, li_45, li_46, li_47, li_48, li_49, li_50, li_51, li_52, li_53, li_54, li_55, li_56, li_57, li_58, li_59, li_60, li_61, li_62, li_63, li_64, li_74, li_86, li_87, li_88, li_96, li_97, li_98, li_99, li_100, li_101, li_102, li_103, li_104, li_105, li_107, li_108, li_109, li_110, li_111, li_112, li_114, li_115, li_116, li_117, li_118, li_121, li_122, li_124, li_136, li_148, li_160, li_680, li_200, li_201, li_255, li_700, li_950, li_1000, li_1400, li_3440, li_4096, li_9999, li_10000, li_20000, li_20033, li_20038, li_20124, li_32767, li_65535, li_1103515245, li_12345, li_m, sx_grd, sx_clamp, nI_add, sx_sub, pk_mul, sx_le, sx_lt, sx_eq, sx_eqm, sx_meq, sx_lem, sx_mle, sx_ltm, sx_mlt, sx_addm, sx_shl, sx_bit1, sx_bit0, fa_or, uA_s, uA_n, sA_s, sA_n, sx_uA, sx_uAn, sx_sAs, pk_us, pk_un, if_true, if_false, if_pos, if_neg, ob_some, Nat.add_zero, Nat.add_sub_cancel, eq_self, ne_eq, not_true, not_false_iff, false_or, true_or, or_false, or_true, false_and, true_and, and_false, and_true, vz.n, m_sizeOf vz wp hb (show h < 2147483648 by omega)]
      have fin : ∀ (k : Nat) (y : MS), k ≤ h → y.1 = M.1 → y.2.1 = M.2.1 → (∀ j, j ≠ 15 → y.2.2 j = M.2.2 j) → (∀ j, k ≤ j → j < h → s j < sz V h) → (∀ j, j < 12 → j ≠ k → y.2.2 15 j = nI (if j < k then s j else if j ≤ h then s (j - 1) else s j)) → (k = 0 ∨ sz V h ≤ s (k - 1)) → RT (f_X12_laysSizes_L23 (nI b) n (nI (h + 1)) (y.1, y.2.1, uA y.2.2 15 k (nI (sz V h)))) Q := by
        intro k y h1 h2 h3 h4 h5 h6 h7
        refine hk _ ⟨h2, h3, fun j hj => by simp only [uA_n hj]; exact h4 j hj, _, fun j hj => ?_, SS_ins s2 (by omega) h1 h5 h7 sp⟩
        simp only [uA_s]
        by_cases c1 : j = k
        · subst c1
          rw [pk_us]
          simp only [Nat.lt_irrefl, if_false, if_true]
          exact ⟨trivial, by omega⟩
        · rw [pk_un c1, h6 j hj c1]
          simp only [if_neg c1]
          refine ⟨trivial, ?_⟩
          have := (s1 j hj).2
          have := (s1 (j - 1) (by omega)).2
          split
          · omega
          · split <;> omega
      refine RT.down (fun m k (y : MS) => f_X12_laysSizes_L45 (f_X12_laysSizes_L23 (nI b) n) (nI b) (nI h) (nI (sz V h)) m (nI k) y) (fun k y => k ≤ h ∧ y.1 = M.1 ∧ y.2.1 = M.2.1 ∧ (∀ j, j ≠ 15 → y.2.2 j = M.2.2 j) ∧ (∀ j, k ≤ j → j < h → s j < sz V h) ∧ (∀ j, j < 12 → j ≠ k → y.2.2 15 j = nI (if j < k then s j else if j ≤ h then s (j - 1) else s j))) _ ?_ ?_ FUEL h z (by unfold FUEL; omega) ⟨Nat.le_refl _, e1, e2, e3, fun j h1 h2 => absurd h1 (by omega), fun j hj hjk => ?_⟩
      · intro m i y ⟨h1, h2, h3, h4, h5, h6⟩ hk2
        show RT (f_X12_laysSizes_L45 (f_X12_laysSizes_L23 (nI b) n) (nI b) (nI h) (nI (sz V h)) (m + 1) (nI (i + 1)) y) _
        have yi := h6 i (by omega) (by omega)
        rw [if_pos (by omega)] at yi
        have si := (s1 i (by omega)).2
        unfold f_X12_laysSizes_L45
        simp (disch := omega) only [bnd_nr, li_0, li_1, li_2, li_3, li_4, li_5, li_6, li_7, li_8, li_9, li_10, li_11, li_12, li_13, li_14, li_15, li_16, li_17, li_18, li_19, li_20, li_21, li_22, li_23, li_24, li_25, li_26, li_27, li_28, li_29, li_30, li_31, li_32, li_33, li_34, li_35, li_36, li_37, li_38, li_39, li_40, li_41, li_42, li_43, li_44, li_45, li_46, li_47, li_48, li_49, li_50, li_51, li_52, li_53, li_54, li_55, li_56, li_57, li_58, li_59, li_60, li_61, li_62, li_63, li_64, li_74, li_86, li_87, li_88, li_96, li_97, li_98, li_99, li_100, li_101, li_102, li_103, li_104, li_105, li_107, li_108, li_109, li_110, li_111, li_112, li_114, li_115, li_116, li_117, li_118, li_121, li_122, li_124, li_136, li_148, li_160, li_680, li_200, li_201, li_255, li_700, li_950, li_1000, li_1400, li_3440, li_4096, li_9999, li_10000, li_20000, li_20033, li_20038, li_20124, li_32767, li_65535, li_1103515245, li_12345, li_m, sx_grd, sx_clamp, nI_add, sx_sub, pk_mul, sx_le, sx_lt, sx_eq, sx_eqm, sx_meq, sx_lem, sx_mle, sx_ltm, sx_mlt, sx_addm, sx_shl, sx_bit1, sx_bit0, fa_or, uA_s, uA_n, sA_s, sA_n, sx_uA, sx_uAn, sx_sAs, pk_us, pk_un, if_true, if_false, if_pos, if_neg, ob_some, Nat.add_zero, Nat.add_sub_cancel, eq_self, ne_eq, not_true, not_false_iff, false_or, true_or, or_false, or_true, false_and, true_and, and_false, and_true, yi]
        refine RT.ite (fun c => ?_) (fun c => ?_)
        · exact fin (i + 1) y h1 h2 h3 h4 h5 h6 (Or.inr c)
        · refine hk2 _ ⟨by omega, h2, h3, fun j hj => by simp only [uA_n hj]; exact h4 j hj, fun j j1 j2 => ?_, fun j hj hji => ?_⟩
          · by_cases e : j = i
            · subst e; omega
            · exact h5 j (by omega) j2
          · simp only [uA_s]
            by_cases e : j = i + 1
            · subst e
              rw [pk_us, if_neg (by omega), if_pos h1]; rfl
            · rw [pk_un e, h6 j hj e]
              by_cases q : j < i
              · rw [if_pos (by omega), if_pos q]
              · rw [if_neg (by omega), if_neg q]
      · intro m y ⟨h1, h2, h3, h4, h5, h6⟩
        show RT (f_X12_laysSizes_L45 (f_X12_laysSizes_L23 (nI b) n) (nI b) (nI h) (nI (sz V h)) (m + 1) (nI 0) y) _
        unfold f_X12_laysSizes_L45
        simp (disch := omega) only [bnd_nr, li_0, li_1, li_2, li_3, li_4, li_5, li_6, li_7, li_8, li_9, li_10, li_11, li_12, li_13, li_14, li_15, li_16, li_17, li_18, li_19, li_20, li_21, li_22, li_23, li_24, li_25, li_26, li_27, li_28, li_29, li_30, li_31, li_32, li_33, li_34, li_35, li_36, li_37, li_38, li_39, li_40, li_41, li_42, li_43, li_44, li_45, li_46, li_47, li_48, li_49, li_50, li_51, li_52, li_53, li_54, li_55, li_56, li_57, li_58, li_59, li_60, li_61, li_62, li_63, li_64, li_74, li_86, li_87, li_88, li_96, li_97, li_98, li_99, li_100, li_101, li_102, li_103, li_104, li_105, li_107, li_108, li_109, li_110, li_111, li_112, li_114, li_115, li_116, li_117, li_118, li_121, li_122, li_124, li_136, li_148, li_160, li_680, li_200, li_201, li_255, li_700, li_950, li_1000, li_1400, li_3440, li_4096, li_9999, li_10000, li_20000, li_20033, li_20038, li_20124, li_32767, li_65535, li_1103515245, li_12345, li_m, sx_grd, sx_clamp, nI_add, sx_sub, pk_mul, sx_le, sx_lt, sx_eq, sx_eqm, sx_meq, sx_lem, sx_mle, sx_ltm, sx_mlt, sx_addm, sx_shl, sx_bit1, sx_bit0, fa_or, uA_s, uA_n, sA_s, sA_n, sx_uA, sx_uAn, sx_sAs, pk_us, pk_un, if_true, if_false, if_pos, if_neg, ob_some, Nat.add_zero, Nat.add_sub_cancel, eq_self, ne_eq, not_true, not_false_iff, false_or, true_or, or_false, or_true, false_and, true_and, and_false, and_true]
        exact fin 0 y h1 h2 h3 h4 h5 h6 (Or.inl rfl)
      · rw [(s1 j hj).1]
        by_cases q : j < h
        · rw [if_pos q]
        · rw [if_neg q, if_neg (by omega)]
  · intro n i z hi ⟨e1, e2, e3, e4⟩ hk
    show RT (f_X12_laysSizes_L2 (nI b) (n + 1) (nI i) z) _
    unfold f_X12_laysSizes_L2
    simp (disch := omega) only [bnd_nr, li_0, li_1, li_2, li_3, li_4, li_5, li_6, li_7, li_8, li_9, li_10, li_11, li_12, li_13, li_14, li_15, li_16, li_17, li_18, li_19, li_20, li_21, li_22, li_23, li_24, li_25, li_26, li_27, li_28, li_29, li_30, li_31, li_32, li_33, li_34, li_35, li_36, li_37, li_38, li_39, li_40, li_41, li_42, li_43, li_44, li_45, li_46, li_47, li_48, li_49, li_50, li_51, li_52, li_53, li_54, li_55, li_56, li_57, li_58, li_59, li_60, li_61, li_62, li_63, li_64, li_74, li_86, li_87, li_88, li_96, li_97, li_98, li_99, li_100, li_101, li_102, li_103, li_104, li_105, li_107, li_108, li_109, li_110, li_111, li_112, li_114, li_115, li_116, li_117, li_118, li_121, li_122, li_124, li_136, li_148, li_160, li_680, li_200, li_201, li_255, li_700, li_950, li_1000, li_1400, li_3440, li_4096, li_9999, li_10000, li_20000, li_20033, li_20038, li_20124, li_32767, li_65535, li_1103515245, li_12345, li_m, sx_grd, sx_clamp, nI_add, sx_sub, pk_mul, sx_le, sx_lt, sx_eq, sx_eqm, sx_meq, sx_lem, sx_mle, sx_ltm, sx_mlt, sx_addm, sx_shl, sx_bit1, sx_bit0, fa_or, uA_s, uA_n, sA_s, sA_n, sx_uA, sx_uAn, sx_sAs, pk_us, pk_un, if_true, if_false, if_pos, if_neg, ob_some, Nat.add_zero, Nat.add_sub_cancel, eq_self, ne_eq, not_true, not_false_iff, false_or, true_or, or_false, or_true, false_and, true_and, and_false, and_true]
    refine hk _ ⟨e1, e2, fun j hj => by simp only [uA_n hj]; exact e3 j hj, fun k hk9 => ?_⟩
    simp only [uA_s]
    by_cases c1 : k = i
    · subst c1; exact pk_us
    · rw [pk_un c1]; exact e4 k (by omega)
