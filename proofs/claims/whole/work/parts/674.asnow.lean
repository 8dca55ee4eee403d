/-! as now, rounds -/
def cpN (V : VT) (p : Nat) : Nat := anN (dw V (ho V p)) (2 ^ p)
theorem cpN_lt {V : VT} {p : Nat} : cpN V p < 2 ^ vn V := anN_lt (dw_lt V _)
theorem c_companions {v : Ob} {V : VT} (c : VC v V) (w : WFP V) {p : Nat} (hp : p < vn V) : f_X10_companions v (nI p) = some (nI (cpN V p)) := by
  have b0 := w.1
  have b1 := w.2.1 p hp
  have p2 := pw12 b0.1
  have d1 := dw_lt V (ho V p)
  unfold f_X10_companions
  simp (disch := omega) only [bnd_nr, li_0, li_1, li_2, li_3, li_4, li_5, li_6, li_7, li_8, li_9, li_10, li_11, li_12, li_13, li_14, li_15, li_16, li_17, li_18, li_19, li_20, li_21, li_22, li_23, li_24, li_25, li_26, li_27, li_28, li_29, li_30, li_31, li_32, li_33, li_34, li_35, li_36, li_37, li_38, li_39, li_40, li_41, li_42, li_43, li_44, li_45, li_46, li_47, li_48, li_49, li_50, li_51, li_52, li_53, li_54, li_55, li_56, li_57, li_58, li_59, li_60, li_61, li_62, li_63, li_64, li_74, li_86, li_87, li_88, li_96, li_97, li_98, li_99, li_100, li_101, li_102, li_103, li_104, li_105, li_107, li_108, li_109, li_110, li_111, li_112, li_114, li_115, li_116, li_117, li_118, li_121, li_122, li_124, li_136, li_148, li_160, li_680, li_200, li_201, li_255, li_700, li_950, li_1000, li_1400, li_3440, li_4096, li_9999, li_10000, li_20000, li_20033, li_20038, li_20124, li_32767, li_65535, li_1103515245, li_12345, li_m, sx_grd, sx_clamp, nI_add, sx_sub, pk_mul, sx_le, sx_lt, sx_eq, sx_eqm, sx_meq, sx_lem, sx_mle, sx_ltm, sx_mlt, sx_addm, sx_shl, sx_bit1, sx_bit0, fa_or, uA_s, uA_n, sA_s, sA_n, sx_uA, sx_uAn, sx_sAs, pk_us, pk_un, if_true, if_false, if_pos, if_neg, ob_some, Nat.add_zero, Nat.add_sub_cancel, eq_self, ne_eq, not_true, not_false_iff, false_or, true_or, or_false, or_true, false_and, true_and, and_false, and_true, c.h p hp, c_dwellers c w (show ho V p < 2147483648 by omega), sx_andn]
  rfl
theorem m_withOne {M : MS} {b : Nat} {V : VT} (v : VM M b V) (w : WFP V) (hb : b ≤ 86) {p : Nat} (hp : p < vn V) : f_X12_withOne M (nI b) (nI p) = some (nI (cpN V p)) := by
  have b0 := w.1
  have b1 := w.2.1 p hp
  have p2 := pw12 b0.1
  have d1 := dw_lt V (ho V p)
  unfold f_X12_withOne
  simp (disch := omega) only [bnd_nr, li_0, li_1, li_2, li_3, li_4, li_5, li_6, li_7, li_8, li_9, li_10, li_11, li_12, li_13, li_14, li_15, li_16, li_17, li_18, li_19, li_20, li_21, li_22, li_23, li_24, li_25, li_26, li_27, li_28, li_29, li_30, li_31, li_32, li_33, li_34, li_35, li_36, li_37, li_38, li_39, li_40, li_41, li_42, li_43, li_44, li_45, li_46, li_47, li_48, li_49, li_50, li_51, li_52, li_53, li_54, li_55, li_56, li_57, li_58, li_59, li_60, li_61, li_62, li_63, li_64, li_74, li_86, li_87, li_88, li_96, li_97, li_98, li_99, li_100, li_101, li_102, li_103, li_104, li_105, li_107, li_108, li_109, li_110, li_111, li_112, li_114, li_115, li_116, li_117, li_118, li_121, li_122, li_124, li_136, li_148, li_160, li_680, li_200, li_201, li_255, li_700, li_950, li_1000, li_1400, li_3440, li_4096, li_9999, li_10000, li_20000, li_20033, li_20038, li_20124, li_32767, li_65535, li_1103515245, li_12345, li_m, sx_grd, sx_clamp, nI_add, sx_sub, pk_mul, sx_le, sx_lt, sx_eq, sx_eqm, sx_meq, sx_lem, sx_mle, sx_ltm, sx_mlt, sx_addm, sx_shl, sx_bit1, sx_bit0, fa_or, uA_s, uA_n, sA_s, sA_n, sx_uA, sx_uAn, sx_sAs, pk_us, pk_un, if_true, if_false, if_pos, if_neg, ob_some, Nat.add_zero, Nat.add_sub_cancel, eq_self, ne_eq, not_true, not_false_iff, false_or, true_or, or_false, or_true, false_and, true_and, and_false, and_true, v.h p hp, m_inHouse v w hb (show ho V p < 2147483648 by omega), sx_andn]
  rfl
def asB (V W : VT) : Bool := decide (fb_ct (fun p => decide (cpN W p = cpN V p)) (vn V) = vn V)
theorem asB_iff {V W : VT} : asB V W = true ↔ ∀ p, p < vn V → cpN W p = cpN V p := by
  unfold asB
  rw [decide_eq_true_eq, fb_ct_all]
  simp only [decide_eq_true_eq]
def ASN (E : RE) (V0 : VT) : Nat := fa_first (fun j => asB V0 (It E V0 (j + 1))) 200
theorem c_isAsNow {cs : CS} {D Rp Rk K : Ob} {fs : FS} {V W : VT} {j : Nat} (hj : j < fs.1) (h0 : 0 < fs.1) (c0 : VC (fs.2.2 0) V) (cj : VC (fs.2.2 j) W) (w : WFP V) (x : WFP W) (e : vn W = vn V) : f_X1_isAsNow cs D Rp Rk K fs j = some (nI (if asB V W then 1 else 0)) := by
  have b0 := w.1
  have p2 := pw12 b0.1
  refine RT.eq ?_
  refine RT.cps (fun Q hQ => ?_)
  unfold f_X1_isAsNow
  refine RT.loop0 (fun n p (_ : Unit) => f_X1_isAsNow_L2 j cs D Rp Rk K fs n (nI p)) (vn V) (fun p _ => ∀ q, q < p → cpN W q = cpN V q) Q () (by omega) (fun q hq => absurd hq (Nat.not_lt_zero _)) ?_ ?_
  · intro n _ h
    show RT (f_X1_isAsNow_L2 j cs D Rp Rk K fs (n + 1) (nI (vn V))) _
    unfold f_X1_isAsNow_L2
    refine RT.grd (decide_eq_true hj) (RT.itT (by rw [cj.1.1, e]; exact nI_le (Nat.le_refl _) (by omega)) (RT.done hQ ?_))
    rw [asB_iff.mpr h]; rfl
  · intro n p _ hp h hk
    show RT (f_X1_isAsNow_L2 j cs D Rp Rk K fs (n + 1) (nI p)) _
    have l1 := cpN_lt (V := V) (p := p)
    have l2 := cpN_lt (V := W) (p := p)
    rw [e] at l2
    unfold f_X1_isAsNow_L2
    refine RT.grd (decide_eq_true hj) (RT.itF (by rw [cj.1.1, e]; exact nI_ge hp (by omega)) (RT.grd (decide_eq_true hj) ?_))
    rw [c_companions cj x (by omega), ob_some]
    refine RT.grd (decide_eq_true h0) ?_
    rw [c_companions c0 w hp, ob_some, bnd_nr, nI_1]
    simp (disch := omega) only [sx_eq]
    refine RT.ite (fun d => hk () (fun q hq => ?_)) (fun d => RT.done hQ ?_)
    · by_cases qp : q = p
      · subst qp; exact d
      · exact h q (by omega)
    · rw [if_neg (fun z => d (asB_iff.mp z p hp))]; rfl
theorem c_firstAsNow {E : RE} {V0 : VT} {cs : CS} {D Rp Rk K : Ob} {fs : FS} {m B5 : Nat} (c : WC E V0 m cs Rp Rk fs) (cw : CW E V0) (hB : B5 = max m (min (ASN E V0 + 1) 200 + 1)) : RT (f_X1_firstAsNow cs D Rp Rk K fs B5) (fun q => q.1 = (if ASN E V0 < 200 then nI (ASN E V0 + 1) else mO) ∧ WC E V0 B5 q.2.1 q.2.2.2.1 q.2.2.2.2.1 q.2.2.2.2.2) := by
  refine RT.cps (fun Q hQ => ?_)
  have m1 : 1 ≤ m := by obtain ⟨⟨rd, c9⟩, _⟩ := c; exact c9.1.2.1
  unfold f_X1_firstAsNow
  refine RT.loop0 (fun n i (y : CS × Ob × Ob × Ob × FS) => f_X1_firstAsNow_L2 B5 K n (nI (i + 1)) y.1 y.2.1 y.2.2.1 y.2.2.2.1 y.2.2.2.2) 200 (fun i y => (∀ j, j < i → asB V0 (It E V0 (j + 1)) = false) ∧ WC E V0 (max m (i + 1)) y.1 y.2.2.1 y.2.2.2.1 y.2.2.2.2) Q (cs, D, Rp, Rk, fs) (by omega) ⟨fun j hj => absurd hj (Nat.not_lt_zero _), by rw [show max m (0 + 1) = m by omega]; exact c⟩ ?_ ?_
  · intro n y ⟨no, wc⟩
    show RT (f_X1_firstAsNow_L2 B5 K (n + 1) (nI 201) y.1 y.2.1 y.2.2.1 y.2.2.2.1 y.2.2.2.2) _
    have f : ASN E V0 = 200 := first_none no
    rw [f] at hB
    unfold f_X1_firstAsNow_L2
    refine RT.itT (show nI 200 < nI 201 from by decide) (RT.done hQ ⟨by rw [f]; rfl, ?_⟩)
    rw [show B5 = max m 201 by omega]; exact wc
  · intro n i y hi ⟨no, wc⟩ hk
    show RT (f_X1_firstAsNow_L2 B5 K (n + 1) (nI (i + 1)) y.1 y.2.1 y.2.2.1 y.2.2.2.1 y.2.2.2.2) _
    obtain ⟨⟨rd, wc1⟩, wc2, wc3⟩ := wc
    have ge : i ≤ ASN E V0 := first_ge no (by omega)
    have cnt : y.2.2.2.2.1 = max m (i + 1) := wc1.1.1
    obtain ⟨wi, ei, ni⟩ := cw.it (E := E) (i := i + 1) (by omega)
    unfold f_X1_firstAsNow_L2
    refine RT.itF (show ¬ nI 200 < nI (i + 1) from nI_nlt (by omega) (by omega)) ?_
    rw [sx_clamp (by omega)]
    refine RT.bind (c_behind wc1 cw.1 cw.2.1 cw.2.2 wc2 wc3 (show i + 1 ≤ 200 by omega) (by rw [cnt])) (fun q ⟨q1, q2, q3, q4, q5, q6⟩ => ?_)
    have cnt2 : q.2.2.2.2.2.1 = max (max m (i + 1)) (i + 1 + 1) := q2.1.1
    refine RT.grd (decide_eq_true ⟨by omega, by rw [cnt2, cnt], by omega⟩) ?_
    rw [q1, c_isAsNow (V := V0) (W := It E V0 (i + 1)) (by omega) (by omega) (q2.2.2.2.1 0 (by omega)) q6 cw.1.1 wi.1 ni, ob_some]
    have wc' : WC E V0 (max m (i + 1 + 1)) q.2.1 q.2.2.2.1 q.2.2.2.2.1 q.2.2.2.2.2 := ⟨⟨max rd (i + 1), by rw [show max m (i + 1 + 1) = max (max m (i + 1)) (i + 1 + 1) by omega]; exact q2⟩, q3, q4⟩
    cases eq : asB V0 (It E V0 (i + 1))
    · refine RT.itT rfl ?_
      rw [bnd_nr, nI_1]
      refine hk (_, _, _, _, _) ⟨fun j hj => ?_, wc'⟩
      by_cases ji : j = i
      · subst ji; exact eq
      · exact no j (by omega)
    · have f : ASN E V0 = i := first_is hi eq no
      refine RT.itF (by decide) (RT.done hQ ⟨by rw [f, if_pos hi], ?_⟩)
      rw [show B5 = max m (i + 1 + 1) by omega]; exact wc'
theorem m_asNow0 {M : MS} {E : RE} {V : VT} (v0 : VM M 0 V) (v : VM M 86 (idV V nI)) (w : WFV V) (ec : EC E M) (k : EOK E) (he : ve V + 201 ≤ 20000) : RT (f_X12_asNow_L11 FUEL (nI 1) M) (fun q => EVF M q.2 ∧ q.1 = if ASN E (idV V nI) < 200 then nI (ASN E (idV V nI) + 1) else mO) := by
  have b0 := w.1.1
  have p2 := pw12 b0.1
  refine RT.cps (fun Q hQ => ?_)
  refine RT.loop0 (fun n i (z : MS) => f_X12_asNow_L11 n (nI (i + 1)) z) 200 (fun i z => (∀ j, j < i → asB (idV V nI) (It E (idV V nI) (j + 1)) = false) ∧ EVF M z ∧ VM z 86 (It E (idV V nI) i)) Q M (by omega) ⟨fun j hj => absurd hj (Nat.not_lt_zero _), EVF.refl M, v⟩ ?_ ?_
  · intro n z ⟨no, z1, z2⟩
    show RT (f_X12_asNow_L11 (n + 1) (nI 201) z) _
    have f : ASN E (idV V nI) = 200 := first_none no
    unfold f_X12_asNow_L11
    exact RT.itT (show nI 200 < nI 201 from by decide) (RT.done hQ ⟨z1, by rw [f]; rfl⟩)
  · intro n i z hi ⟨no, z1, z2⟩ hk
    show RT (f_X12_asNow_L11 (n + 1) (nI (i + 1)) z) _
    obtain ⟨wi, ei, ni⟩ := It_wf (E := E) (w.idv nI) i (by show ve V + i ≤ 20000; omega)
    obtain ⟨wj, ej, nj⟩ := It_wf (E := E) (w.idv nI) (i + 1) (by show ve V + (i + 1) ≤ 20000; omega)
    have ei : ve (It E (idV V nI) i) = ve V + i := ei
    have nj : vn (It E (idV V nI) (i + 1)) = vn V := nj
    unfold f_X12_asNow_L11
    refine RT.itF (show ¬ nI 200 < nI (i + 1) from nI_nlt (by omega) (by omega)) ?_
    refine RT.bind (m_ev86 z2 wi (ec.qf z1.qf) k (by omega)) (fun q ⟨q1, q2, q3⟩ => ?_)
    have q3 : VM q 86 (It E (idV V nI) (i + 1)) := q3
    have zq := z1.trans q1
    have vq : VM q 0 V := v0.qf w zq.qf
    have fin : ∀ l2 : Int32, l2 = nI (if asB (idV V nI) (It E (idV V nI) (i + 1)) then 1 else 0) → RT (f_X12_asNow_J68 (f_X12_asNow_L11 n) (nI (i + 1)) l2 q) Q := by
      intro l2 hl
      unfold f_X12_asNow_J68
      rw [hl]
      cases eq : asB (idV V nI) (It E (idV V nI) (i + 1))
      · refine RT.itT rfl ?_
        rw [bnd_nr, nI_1]
        refine hk _ ⟨fun j hj => ?_, zq, q3⟩
        by_cases ji : j = i
        · subst ji; exact eq
        · exact no j (by omega)
      · have f : ASN E (idV V nI) = i := first_is hi eq no
        exact RT.itF (by decide) (RT.done hQ ⟨zq, by rw [f, if_pos hi]⟩)
    refine RT.loop0 (fun n2 p (l2 : Int32) => f_X12_asNow_L28 (f_X12_asNow_L11 n) (nI (i + 1)) q n2 l2 (nI p)) (vn V) (fun p l2 => (l2 = nI 1 ∧ ∀ t, t < p → cpN (It E (idV V nI) (i + 1)) t = cpN V t) ∨ (l2 = nI 0 ∧ asB (idV V nI) (It E (idV V nI) (i + 1)) = false)) Q _ (by omega) (Or.inl ⟨rfl, fun t ht => absurd ht (Nat.not_lt_zero _)⟩) ?_ ?_
    · intro n2 l2 g
      show RT (f_X12_asNow_L28 (f_X12_asNow_L11 n) (nI (i + 1)) q (n2 + 1) l2 (nI (vn V))) _
      unfold f_X12_asNow_L28
      refine RT.itT (by rw [vq.1]; exact nI_le (Nat.le_refl _) (by omega)) (fin l2 ?_)
      rcases g with ⟨g1, g2⟩ | ⟨g1, g2⟩
      · rw [show asB (idV V nI) (It E (idV V nI) (i + 1)) = true from asB_iff.mpr g2]; exact g1
      · rw [g2]; exact g1
    · intro n2 p l2 hp g hk2
      show RT (f_X12_asNow_L28 (f_X12_asNow_L11 n) (nI (i + 1)) q (n2 + 1) l2 (nI p)) _
      have l1 := cpN_lt (V := V) (p := p)
      have l9 := cpN_lt (V := It E (idV V nI) (i + 1)) (p := p)
      rw [nj] at l9
      unfold f_X12_asNow_L28
      refine RT.itF (by rw [vq.1]; exact nI_ge hp (by omega)) ?_
      rcases g with ⟨g1, g2⟩ | ⟨g1, g2⟩
      · subst g1
        refine RT.itF (by decide) ?_
        rw [show (86 : Int32) = nI 86 from rfl, show (0 : Int32) = nI 0 from rfl, m_withOne q3 wj.1 (by omega) (by omega), ob_some, m_withOne vq w.1 (by omega) hp, ob_some, bnd_nr, bnd_nr, nI_1]
        simp (disch := omega) only [sx_eq]
        refine RT.ite (fun d => hk2 _ (Or.inl ⟨rfl, fun t ht => ?_⟩)) (fun d => hk2 _ (Or.inr ⟨rfl, Bool.eq_false_iff.mpr (fun z9 => d (asB_iff.mp z9 p hp))⟩))
        by_cases tp : t = p
        · subst tp; exact d
        · exact g2 t (by omega)
      · subst g1
        exact RT.itT rfl (fin _ (by rw [g2]; rfl))
/-- the first two of like sizes -/
def RND (eqB : Nat → Nat → Bool) (bg : Bool) (r : Int32) : Prop := (r = mO ∧ ∀ i, i < 200 → ∀ j, i < j → j ≤ 200 → eqB i j = false) ∨ ∃ i j, i < 200 ∧ i < j ∧ j ≤ 200 ∧ eqB i j = true ∧ (∀ t, i < t → t < j → eqB i t = false) ∧ (∀ s, s < i → ∀ t, s < t → t ≤ 200 → eqB s t = false) ∧ r = if bg then nI i else nI (j - i)
theorem RND_one {eqB : Nat → Nat → Bool} {bg : Bool} {r s : Int32} (a : RND eqB bg r) (b : RND eqB bg s) : r = s := by
  rcases a with ⟨a1, a2⟩ | ⟨i, j, i1, i2, i3, i4, i5, i6, i7⟩
  · rcases b with ⟨b1, b2⟩ | ⟨k, l, k1, k2, k3, k4, k5, k6, k7⟩
    · rw [a1, b1]
    · rw [a2 k k1 l k2 k3] at k4; cases k4
  · rcases b with ⟨b1, b2⟩ | ⟨k, l, k1, k2, k3, k4, k5, k6, k7⟩
    · rw [b2 i i1 j i2 i3] at i4; cases i4
    · have e : i = k := by
        rcases Nat.lt_trichotomy i k with z | z | z
        · rw [k6 i z j i2 i3] at i4; cases i4
        · exact z
        · rw [i6 k z l k2 k3] at k4; cases k4
      subst e
      have f : j = l := by
        rcases Nat.lt_trichotomy j l with z | z | z
        · rw [k5 j i2 z] at i4; cases i4
        · exact z
        · rw [i5 l k2 z] at k4; cases k4
      subst f
      rw [i7, k7]
def kyB (E : RE) (V0 : VT) (i j : Nat) : Bool := decide (kyV (It E V0 i) = kyV (It E V0 j))
theorem c_sizesRound {E : RE} {V0 : VT} {cs : CS} {D Rp Rk K : Ob} {fs : FS} {m : Nat} {bg : Bool} (c : WC E V0 m cs Rp Rk fs) (cw : CW E V0) : RT (f_X1_sizesRound cs D Rp Rk K fs (max m 201) (nI (if bg then 1 else 0))) (fun q => RND (kyB E V0) bg q.1 ∧ WC E V0 (max m 201) q.2.1 q.2.2.2.1 q.2.2.2.2.1 q.2.2.2.2.2) := by
  refine RT.cps (fun Q hQ => ?_)
  have m1 : 1 ≤ m := by obtain ⟨⟨rd, c9⟩, _⟩ := c; exact c9.1.2.1
  unfold f_X1_sizesRound
  refine RT.loop0 (fun n i (y : CS × Ob × Ob × Ob × FS) => f_X1_sizesRound_L2 (max m 201) (nI (if bg then 1 else 0)) K n (nI i) y.1 y.2.1 y.2.2.1 y.2.2.2.1 y.2.2.2.2) 201 (fun i y => (∀ j, j < i → y.1.2.1 j = lN (kyV (It E V0 j))) ∧ WC E V0 (max m i) y.1 y.2.2.1 y.2.2.2.1 y.2.2.2.2) Q (cs, D, Rp, Rk, fs) (by omega) ⟨fun j hj => absurd hj (Nat.not_lt_zero _), by rw [show max m 0 = m by omega]; exact c⟩ ?_ ?_
  · intro n y ⟨ks, wc⟩
    show RT (f_X1_sizesRound_L2 (max m 201) (nI (if bg then 1 else 0)) K (n + 1) (nI 201) y.1 y.2.1 y.2.2.1 y.2.2.2.1 y.2.2.2.2) _
    unfold f_X1_sizesRound_L2
    refine RT.itT (show nI 200 < nI 201 from by decide) ?_
    refine RT.loop0 (fun n i (_ : Unit) => f_X1_sizesRound_L31 (max m 201) (nI (if bg then 1 else 0)) y.1 y.2.1 y.2.2.1 y.2.2.2.1 K y.2.2.2.2 n (nI i)) 200 (fun i _ => ∀ s, s < i → ∀ t, s < t → t ≤ 200 → kyB E V0 s t = false) Q () (by omega) (fun s hs => absurd hs (Nat.not_lt_zero _)) ?_ ?_
    · intro n _ no
      show RT (f_X1_sizesRound_L31 (max m 201) (nI (if bg then 1 else 0)) y.1 y.2.1 y.2.2.1 y.2.2.2.1 K y.2.2.2.2 (n + 1) (nI 200)) _
      unfold f_X1_sizesRound_L31
      exact RT.itT (show nI 200 ≤ nI 200 from by decide) (RT.done hQ ⟨Or.inl ⟨rfl, no⟩, wc⟩)
    · intro n i _ hi no hk
      show RT (f_X1_sizesRound_L31 (max m 201) (nI (if bg then 1 else 0)) y.1 y.2.1 y.2.2.1 y.2.2.2.1 K y.2.2.2.2 (n + 1) (nI i)) _
      unfold f_X1_sizesRound_L31
      refine RT.itF (show ¬ nI 200 ≤ nI i from nI_ge hi (by omega)) ?_
      rw [bnd_nr, nI_1]
      refine RT.loopI (fun n2 j (_ : Unit) => f_X1_sizesRound_L42 (f_X1_sizesRound_L31 (max m 201) (nI (if bg then 1 else 0)) y.1 y.2.1 y.2.2.1 y.2.2.2.1 K y.2.2.2.2 n) (max m 201) (nI (if bg then 1 else 0)) (nI i) y.1 y.2.1 y.2.2.1 y.2.2.2.1 K y.2.2.2.2 n2 (nI j)) (i + 1) 201 (fun j _ => ∀ t, i < t → t < j → kyB E V0 i t = false) Q () (by omega) (by omega) (fun t h1 h2 => absurd h1 (by omega)) ?_ ?_
      · intro n2 _ no2
        show RT (f_X1_sizesRound_L42 _ (max m 201) (nI (if bg then 1 else 0)) (nI i) y.1 y.2.1 y.2.2.1 y.2.2.2.1 K y.2.2.2.2 (n2 + 1) (nI 201)) _
        unfold f_X1_sizesRound_L42
        refine RT.itT (show nI 200 < nI 201 from by decide) ?_
        rw [bnd_nr, nI_1]
        refine hk () (fun s hs t h1 h2 => ?_)
        by_cases si : s = i
        · subst si; exact no2 t h1 (by omega)
        · exact no s (by omega) t h1 h2
      · intro n2 j _ j0 hj no2 hk2
        show RT (f_X1_sizesRound_L42 _ (max m 201) (nI (if bg then 1 else 0)) (nI i) y.1 y.2.1 y.2.2.1 y.2.2.2.1 K y.2.2.2.2 (n2 + 1) (nI j)) _
        have ki := ky_lt (cw.it (E := E) (i := i) (by omega)).1
        have kj := ky_lt (cw.it (E := E) (i := j) (by omega)).1
        have iff : lg_cmp (lN (kyV (It E V0 i))) (lN (kyV (It E V0 j))) = 0 ↔ kyB E V0 i j = true := by
          rw [lg_cmp_eq, fb_lN_inj ki kj]
          unfold kyB
          rw [decide_eq_true_eq]
        unfold f_X1_sizesRound_L42
        refine RT.itF (show ¬ nI 200 < nI j from nI_nlt (by omega) (by omega)) ?_
        rw [sx_grd (by omega) (by omega), sx_grd (by omega) (by omega), sx_clamp (by omega), sx_clamp (by omega), ks i (by omega), ks j (by omega)]
        refine RT.ite (fun d => ?_) (fun d => ?_)
        · have d := iff.mp d
          cases bg
          · refine RT.itT rfl (RT.done hQ ⟨Or.inr ⟨i, j, hi, by omega, by omega, d, fun t h1 h2 => no2 t h1 h2, no, ?_⟩, wc⟩)
            exact sx_sub (by omega)
          · exact RT.itF (by decide) (RT.done hQ ⟨Or.inr ⟨i, j, hi, by omega, by omega, d, fun t h1 h2 => no2 t h1 h2, no, rfl⟩, wc⟩)
        · rw [bnd_nr, nI_1]
          refine hk2 () (fun t h1 h2 => ?_)
          by_cases tj : t = j
          · subst tj; exact Bool.eq_false_iff.mpr (fun z => d (iff.mpr z))
          · exact no2 t h1 (by omega)
  · intro n i y hi ⟨ks, wc⟩ hk
    show RT (f_X1_sizesRound_L2 (max m 201) (nI (if bg then 1 else 0)) K (n + 1) (nI i) y.1 y.2.1 y.2.2.1 y.2.2.2.1 y.2.2.2.2) _
    obtain ⟨⟨rd, wc1⟩, wc2, wc3⟩ := wc
    have cnt : y.2.2.2.2.1 = max m i := wc1.1.1
    obtain ⟨wi, ei, ni⟩ := cw.it (E := E) (i := i) (by omega)
    unfold f_X1_sizesRound_L2
    refine RT.itF (show ¬ nI 200 < nI i from nI_nlt (by omega) (by omega)) ?_
    rw [sx_clamp (by omega)]
    refine RT.bind (c_behind wc1 cw.1 cw.2.1 cw.2.2 wc2 wc3 (show i ≤ 200 by omega) (by rw [cnt])) (fun q ⟨q1, q2, q3, q4, q5, q6⟩ => ?_)
    have cnt2 : q.2.2.2.2.2.1 = max (max m i) (i + 1) := q2.1.1
    refine RT.grd (decide_eq_true ⟨by omega, by rw [cnt2, cnt], by omega⟩) (RT.grd (decide_eq_true (by omega)) ?_)
    rw [q1, c_sizesKey q6 wi, ob_some, sx_grd (by omega) (by omega), bnd_nr, bnd_nr, nI_1]
    refine hk (_, _, _, _, _) ⟨fun j hj => ?_, ⟨⟨max rd i, ?_⟩, q3, q4⟩⟩
    · show vp_updL q.2.1.2.1 i (lN (kyV (It E V0 i))) j = _
      by_cases ji : j = i
      · subst ji; exact pk_uLs
      · rw [pk_uLn ji, q5]; exact ks j (by omega)
    · rw [show max m (i + 1) = max (max m i) (i + 1) by omega]; exact q2
theorem m_round0 {M : MS} {E : RE} {V : VT} (v : VM M 86 V) (w : WFV V) (ec : EC E M) (k : EOK E) (he : ve V + 201 ≤ 20000) (x : Int32) : RT (f_X12_round_L22 x FUEL (nI 0) M) (fun q => QF M q.2 ∧ RND (kyB E V) (decide (x = 0)) q.1) := by
  have b0 := w.1.1
  refine RT.cps (fun Q hQ => ?_)
  refine RT.loop0 (fun n i (z : MS) => f_X12_round_L22 x n (nI i) z) 201 (fun i z => (∀ j, j < i → ∃ s : Nat → Nat, (∀ t, t < 12 → z.2.2 16 (12 * j + t) = nI (s t) ∧ s t ≤ 12) ∧ SS s (Cn (It E V j) (vh (It E V j)))) ∧ QF M z ∧ VM z 86 (It E V i)) Q M (by omega) ⟨fun j hj => absurd hj (Nat.not_lt_zero _), QF.refl M, v⟩ ?_ ?_
  · intro n z ⟨ks, z1, z2⟩
    show RT (f_X12_round_L22 x (n + 1) (nI 201) z) _
    unfold f_X12_round_L22
    refine RT.itT (show nI 200 < nI 201 from by decide) ?_
    have like : ∀ i j, i < 201 → j < 201 → f_X12_areLike z (nI i) (nI j) = some (nI (if kyB E V i j then 1 else 0)) := by
      intro i j hi hj
      obtain ⟨s, s1, s2⟩ := ks i hi
      obtain ⟨t, t1, t2⟩ := ks j hj
      have iff := ky_iff (It_wf (E := E) w i (by omega)).1 (It_wf (E := E) w j (by omega)).1 s2 t2
      refine RT.eq ?_
      refine RT.cps (fun Q hQ => ?_)
      unfold f_X12_areLike
      refine RT.loop0 (fun n u (_ : Unit) => f_X12_areLike_L2 (nI i) (nI j) z n (nI u)) 12 (fun u _ => ∀ y, y < u → s y = t y) Q () (by omega) (fun y hy => absurd hy (Nat.not_lt_zero _)) ?_ ?_
      · intro n _ h
        show RT (f_X12_areLike_L2 (nI i) (nI j) z (n + 1) (nI 12)) _
        unfold f_X12_areLike_L2
        refine RT.itT (show nI 12 ≤ nI 12 from by decide) (RT.done hQ ?_)
        unfold kyB
        rw [decide_eq_true (iff.mpr h)]; rfl
      · intro n u _ hu h hk
        show RT (f_X12_areLike_L2 (nI i) (nI j) z (n + 1) (nI u)) _
        have su := s1 u hu
        have tu := t1 u hu
        unfold f_X12_areLike_L2
        simp (disch := omega) only [bnd_nr, li_0, li_1, li_2, li_3, li_4, li_5, li_6, li_7, li_8, li_9, li_10, li_11, li_12, li_13, li_14, li_15, li_16, li_17, li_18, li_19, li_20, li_21, li_22, li_23, li_24, li_25, li_26, li_27, li_28, li_29, li_30, li_31, li_32, li_33, li_34, li_35, li_36, li_37, li_38, li_39, li_40, li_41, li_42, li_43, li_44, li_45, li_46, li_47, li_48, li_49, li_50, li_51, li_52, li_53, li_54, li_55, li_56, li_57, li_58, li_59, li_60, li_61, li_62, li_63, li_64, li_74, li_86, li_87, li_88, li_96, li_97, li_98, li_99, li_100, li_101, li_102, li_103, li_104, li_105, li_107, li_108, li_109, li_110, li_111, li_112, li_114, li_115, li_116, li_117, li_118, li_121, li_122, li_124, li_136, li_148, li_160, li_680, li_200, li_201, li_255, li_700, li_950, li_1000, li_1400, li_3440, li_4096, li_9999, li_10000, li_20000, li_20033, li_20038, li_20124, li_32767, li_65535, li_1103515245, li_12345, li_m, sx_grd, sx_clamp, nI_add, sx_sub, pk_mul, sx_le, sx_lt, sx_eq, sx_eqm, sx_meq, sx_lem, sx_mle, sx_ltm, sx_mlt, sx_addm, sx_shl, sx_bit1, sx_bit0, fa_or, uA_s, uA_n, sA_s, sA_n, sx_uA, sx_uAn, sx_sAs, pk_us, pk_un, if_true, if_false, if_pos, if_neg, ob_some, Nat.add_zero, Nat.add_sub_cancel, eq_self, ne_eq, not_true, not_false_iff, false_or, true_or, or_false, or_true, false_and, true_and, and_false, and_true, su.1, tu.1]
        refine RT.ite (fun d => hk () (fun y hy => ?_)) (fun d => RT.done hQ ?_)
        · by_cases yu : y = u
          · subst yu; exact d
          · exact h y (by omega)
        · unfold kyB
          rw [decide_eq_false (fun z9 => d (iff.mp z9 u hu))]; rfl
    refine RT.loop0 (fun n i (_ : Unit) => f_X12_round_L80 x z n (nI i)) 200 (fun i _ => ∀ s, s < i → ∀ t, s < t → t ≤ 200 → kyB E V s t = false) Q () (by omega) (fun s hs => absurd hs (Nat.not_lt_zero _)) ?_ ?_
    · intro n _ no
      show RT (f_X12_round_L80 x z (n + 1) (nI 200)) _
      unfold f_X12_round_L80
      exact RT.itT (show nI 200 ≤ nI 200 from by decide) (RT.done hQ ⟨z1, Or.inl ⟨rfl, no⟩⟩)
    · intro n i _ hi no hk
      show RT (f_X12_round_L80 x z (n + 1) (nI i)) _
      unfold f_X12_round_L80
      refine RT.itF (show ¬ nI 200 ≤ nI i from nI_ge hi (by omega)) ?_
      rw [bnd_nr, nI_1]
      refine RT.loopI (fun n2 j (_ : Unit) => f_X12_round_L91 (f_X12_round_L80 x z n) x (nI i) z n2 (nI j)) (i + 1) 201 (fun j _ => ∀ t, i < t → t < j → kyB E V i t = false) Q () (by omega) (by omega) (fun t h1 h2 => absurd h1 (by omega)) ?_ ?_
      · intro n2 _ no2
        show RT (f_X12_round_L91 (f_X12_round_L80 x z n) x (nI i) z (n2 + 1) (nI 201)) _
        unfold f_X12_round_L91
        refine RT.itT (show nI 200 < nI 201 from by decide) ?_
        rw [bnd_nr, nI_1]
        refine hk () (fun s hs t h1 h2 => ?_)
        by_cases si : s = i
        · subst si; exact no2 t h1 (by omega)
        · exact no s (by omega) t h1 h2
      · intro n2 j _ j0 hj no2 hk2
        show RT (f_X12_round_L91 (f_X12_round_L80 x z n) x (nI i) z (n2 + 1) (nI j)) _
        unfold f_X12_round_L91
        refine RT.itF (show ¬ nI 200 < nI j from nI_nlt (by omega) (by omega)) ?_
        rw [like i j (by omega) (by omega), ob_some]
        cases d : kyB E V i j
        · refine RT.itT rfl ?_
          rw [bnd_nr, nI_1]
          refine hk2 () (fun t h1 h2 => ?_)
          by_cases tj : t = j
          · subst tj; exact d
          · exact no2 t h1 (by omega)
        · refine RT.itF (by decide) (RT.ite (fun d2 => RT.done hQ ⟨z1, Or.inr ⟨i, j, hi, by omega, by omega, d, fun t h1 h2 => no2 t h1 h2, no, ?_⟩⟩) (fun d2 => RT.done hQ ⟨z1, Or.inr ⟨i, j, hi, by omega, by omega, d, fun t h1 h2 => no2 t h1 h2, no, ?_⟩⟩))
          · rw [decide_eq_true d2]; rfl
          · rw [decide_eq_false d2]; exact sx_sub (by omega)
  · intro n i z hi ⟨ks, z1, z2⟩ hk
    show RT (f_X12_round_L22 x (n + 1) (nI i) z) _
    obtain ⟨wi, ei, ni⟩ := It_wf (E := E) w i (by omega)
    unfold f_X12_round_L22
    refine RT.itF (show ¬ nI 200 < nI i from nI_nlt (by omega) (by omega)) ?_
    refine RT.bind (m_laysSizes (b := 86) z2 wi (by omega)) (fun r ⟨r1, r2, r3, s, s1, s2⟩ => ?_)
    have qr : QF z r := QS.qf ⟨r1, r2, r3⟩
    refine RT.loop0 (fun n2 t (y : MS) => f_X12_round_L37 (f_X12_round_L22 x n) x (nI i) n2 (nI t) y) 12 (fun t y => y.1 = r.1 ∧ y.2.1 = r.2.1 ∧ (∀ j, j ≠ 16 → y.2.2 j = r.2.2 j) ∧ (∀ u, u < t → y.2.2 16 (12 * i + u) = nI (s u)) ∧ ∀ u, u < 12 * i → y.2.2 16 u = r.2.2 16 u) Q r (by omega) ⟨rfl, rfl, fun _ _ => rfl, fun u hu => absurd hu (Nat.not_lt_zero _), fun _ _ => rfl⟩ ?_ ?_
    · intro n2 y ⟨y1, y2, y3, y4, y5⟩
      show RT (f_X12_round_L37 (f_X12_round_L22 x n) x (nI i) (n2 + 1) (nI 12) y) _
      have qy : QF z y := ⟨fun a ha => by rw [y1]; exact qr.1 a ha, y2.trans qr.2.1, fun a h1 h2 => by
        have := scA_ne h2
        rw [y3 a (by omega)]; exact qr.2.2.1 a h1 h2, fun a ha => by rw [y3 10 (by omega)]; exact qr.2.2.2 a ha⟩
      have vy : VM y 86 (It E V i) := VM_of (by rw [y1, r1]) (by rw [y3 10 (by omega), r3 10 (by omega)]) z2
      unfold f_X12_round_L37
      refine RT.itT (show nI 12 ≤ nI 12 from by decide) ?_
      refine RT.bind (m_ev86 vy wi (ec.qf (z1.trans qy)) k (by omega)) (fun q ⟨q1, q2, q3⟩ => ?_)
      rw [bnd_nr, nI_1]
      refine hk _ ⟨fun j hj => ?_, (z1.trans qy).trans q1.qf, q3⟩
      rw [q1.2.2.1 16 (by omega) (by omega) (by omega) (by omega)]
      by_cases ji : j = i
      · subst ji; exact ⟨s, fun t ht => ⟨y4 t ht, (s1 t ht).2⟩, s2⟩
      · obtain ⟨s9, a1, a2⟩ := ks j (by omega)
        refine ⟨s9, fun t ht => ?_, a2⟩
        rw [y5 _ (by omega), r3 16 (by omega)]
        exact a1 t ht
    · intro n2 t y ht ⟨y1, y2, y3, y4, y5⟩ hk2
      show RT (f_X12_round_L37 (f_X12_round_L22 x n) x (nI i) (n2 + 1) (nI t) y) _
      unfold f_X12_round_L37
      simp (disch := omega) only [bnd_nr, li_0, li_1, li_2, li_3, li_4, li_5, li_6, li_7, li_8, li_9, li_10, li_11, li_12, li_13, li_14, li_15, li_16, li_17, li_18, li_19, li_20, li_21, li_22, li_23, li_24, li_25, li_26, li_27, li_28, li_29, li_30, li_31, li_32, li_33, li_34, li_35, li_36, li_37, li_38, li_39, li_40, li_41, li_42, li_43, li_44, li_45, li_46, li_47, li_48, li_49, li_50, li_51, li_52, li_53, li_54, li_55, li_56, li_57, li_58, li_59, li_60, li_61, li_62, li_63, li_64, li_74, li_86, li_87, li_88, li_96, li_97, li_98, li_99, li_100, li_101, li_102, li_103, li_104, li_105, li_107, li_108, li_109, li_110, li_111, li_112, li_114, li_115, li_116, li_117, li_118, li_121, li_122, li_124, li_136, li_148, li_160, li_680, li_200, li_201, li_255, li_700, li_950, li_1000, li_1400, li_3440, li_4096, li_9999, li_10000, li_20000, li_20033, li_20038, li_20124, li_32767, li_65535, li_1103515245, li_12345, li_m, sx_grd, sx_clamp, nI_add, sx_sub, pk_mul, sx_le, sx_lt, sx_eq, sx_eqm, sx_meq, sx_lem, sx_mle, sx_ltm, sx_mlt, sx_addm, sx_shl, sx_bit1, sx_bit0, fa_or, uA_s, uA_n, sA_s, sA_n, sx_uA, sx_uAn, sx_sAs, pk_us, pk_un, if_true, if_false, if_pos, if_neg, ob_some, Nat.add_zero, Nat.add_sub_cancel, eq_self, ne_eq, not_true, not_false_iff, false_or, true_or, or_false, or_true, false_and, true_and, and_false, and_true]
      refine hk2 _ ⟨y1, y2, fun j hj => by simp only [uA_n hj]; exact y3 j hj, fun u hu => ?_, fun u hu => ?_⟩
      · simp only [uA_s]
        by_cases ut : u = t
        · subst ut; rw [pk_us, y3 15 (by omega)]; exact (s1 u (by omega)).1
        · rw [pk_un (by omega)]; exact y4 u (by omega)
      · simp only [uA_s]
        rw [pk_un (by omega)]; exact y5 u hu
