/-! when: both live in one, one goes, a house falls -/
theorem first_ge {c : Nat → Bool} {n i : Nat} (no : ∀ j, j < i → c j = false) (hi : i ≤ n) : i ≤ fa_first c n := by
  rcases Nat.lt_or_ge (fa_first c n) i with z | z
  · have := fa_first_yes c n (by omega)
    rw [no _ z] at this; cases this
  · exact z
theorem VM.h8 {M : MS} {V : VT} (v : VM M 86 V) : ∀ p, p < vn V → M.2.2 10 (88 + p) = nI (ho V p) := fun p hp => v.h p hp
theorem VM.p8 {M : MS} {V : VT} (v : VM M 86 V) : ∀ p, p < vn V → M.2.2 10 (100 + p) = nI (pl V p) := fun p hp => v.p p hp
theorem VM.s8 {M : MS} {V : VT} (v : VM M 86 V) : ∀ p, p < vn V → M.2.2 10 (112 + p) = nI (si V p) := fun p hp => v.s p hp
theorem VM.m8 {M : MS} {V : VT} (v : VM M 86 V) : ∀ p, p < vn V → M.2.2 10 (124 + p) = mv V p := fun p hp => v.m p hp
theorem VM.r8 {M : MS} {V : VT} (v : VM M 86 V) : ∀ p, p < vn V → M.2.2 10 (136 + p) = nI (rk V p) := fun p hp => v.r p hp
theorem VM.o8 {M : MS} {V : VT} (v : VM M 86 V) : ∀ h, h < vh V → M.2.2 10 (148 + h) = nI (ol V h) := fun h hh => v.o h hh
theorem VM.i8 {M : MS} {V : VT} (v : VM M 86 V) : ∀ h, h < vh V → M.2.2 10 (160 + h) = idd V h := fun h hh => v.i h hh
theorem VM.n8 {M : MS} {V : VT} (v : VM M 86 V) : M.2.2 10 87 = nI (vh V) := v.n
def CW (E : RE) (V0 : VT) : Prop := WFV V0 ∧ ve V0 ≤ 9999 ∧ EOK E
theorem CW.it {E : RE} {V0 : VT} (c : CW E V0) {i : Nat} (hi : i ≤ 300) : WFV (It E V0 i) ∧ ve (It E V0 i) = ve V0 + i ∧ vn (It E V0 i) = vn V0 := It_wf c.1 i (by have := c.2.1; omega)
def WC (E : RE) (V0 : VT) (N : Nat) (cs : CS) (p k : Ob) (fs : FS) : Prop := (∃ rd, COr E V0 cs fs rd N) ∧ RCo p E.1 ∧ RCo k E.2
def inB (V : VT) (p o : Nat) : Bool := decide (ho V p = ho V o)
def FW (E : RE) (V0 : VT) (p o : Nat) (b : Bool) (lim : Nat) : Nat := fa_first (fun i => inB (It E V0 i) p o == b) lim
theorem c_firstWith {E : RE} {V0 : VT} {cs : CS} {D Rp Rk K : Ob} {fs : FS} {m p o B5 : Nat} {b : Bool} (c : WC E V0 m cs Rp Rk fs) (cw : CW E V0) (hp : p < vn V0) (ho9 : o < vn V0) (hB : B5 = max m (min (FW E V0 p o b 101) 100 + 1)) : RT (f_X1_firstWith cs D Rp Rk K fs B5 (nI p) (nI o) (nI (if b then 1 else 0))) (fun q => q.1 = (if FW E V0 p o b 101 < 101 then nI (FW E V0 p o b 101) else mO) ∧ WC E V0 B5 q.2.1 q.2.2.2.1 q.2.2.2.2.1 q.2.2.2.2.2) := by
  refine RT.cps (fun Q hQ => ?_)
  have m1 : 1 ≤ m := by obtain ⟨⟨rd, c9⟩, _⟩ := c; exact c9.1.2.1
  have b0 := cw.1.1.1
  unfold f_X1_firstWith
  refine RT.loop0 (fun n i (y : CS × Ob × Ob × Ob × FS) => f_X1_firstWith_L3 B5 (nI p) (nI o) (nI (if b then 1 else 0)) K n (nI i) y.1 y.2.1 y.2.2.1 y.2.2.2.1 y.2.2.2.2) 101 (fun i y => (∀ j, j < i → (inB (It E V0 j) p o == b) = false) ∧ WC E V0 (max m i) y.1 y.2.2.1 y.2.2.2.1 y.2.2.2.2) Q (cs, D, Rp, Rk, fs) (by omega) ⟨fun j hj => absurd hj (Nat.not_lt_zero _), by rw [show max m 0 = m by omega]; exact c⟩ ?_ ?_
  · intro n y ⟨no, wc⟩
    show RT (f_X1_firstWith_L3 B5 (nI p) (nI o) (nI (if b then 1 else 0)) K (n + 1) (nI 101) y.1 y.2.1 y.2.2.1 y.2.2.2.1 y.2.2.2.2) _
    have f : FW E V0 p o b 101 = 101 := first_none no
    rw [f] at hB
    unfold f_X1_firstWith_L3
    refine RT.itT (show nI 100 < nI 101 from by decide) (RT.done hQ ⟨by rw [f]; rfl, ?_⟩)
    rw [show B5 = max m 101 by omega]; exact wc
  · intro n i y hi ⟨no, wc⟩ hk
    show RT (f_X1_firstWith_L3 B5 (nI p) (nI o) (nI (if b then 1 else 0)) K (n + 1) (nI i) y.1 y.2.1 y.2.2.1 y.2.2.2.1 y.2.2.2.2) _
    obtain ⟨⟨rd, wc1⟩, wc2, wc3⟩ := wc
    have ge : i ≤ FW E V0 p o b 101 := first_ge no (by omega)
    have cnt : y.2.2.2.2.1 = max m i := wc1.1.1
    obtain ⟨wi, ei, ni⟩ := cw.it (E := E) (i := i) (by omega)
    unfold f_X1_firstWith_L3
    refine RT.itF (show ¬ nI 100 < nI i from nI_nlt (by omega) (by omega)) ?_
    rw [sx_clamp (by omega)]
    refine RT.bind (c_behind wc1 cw.1 cw.2.1 cw.2.2 wc2 wc3 (show i ≤ 200 by omega) (by rw [cnt])) (fun q ⟨q1, q2, q3, q4, q5, q6⟩ => ?_)
    have cnt2 : q.2.2.2.2.2.1 = max (max m i) (i + 1) := q2.1.1
    refine RT.grd (decide_eq_true ⟨by omega, by rw [cnt2, cnt], by omega⟩) (RT.grd (decide_eq_true (by omega)) ?_)
    rw [q1, c_inOne q6 wi.1 (by omega) (by omega), ob_some]
    have wc' : WC E V0 (max m (i + 1)) q.2.1 q.2.2.2.1 q.2.2.2.2.1 q.2.2.2.2.2 := ⟨⟨max rd i, by rw [show max m (i + 1) = max (max m i) (i + 1) by omega]; exact q2⟩, q3, q4⟩
    by_cases eq : (inB (It E V0 i) p o == b) = true
    · have f : FW E V0 p o b 101 = i := first_is hi eq no
      refine RT.itT ?_ (RT.done hQ ⟨by rw [f, if_pos hi], ?_⟩)
      · unfold inB at eq
        cases b <;> simp at eq <;> simp [eq]
      · rw [show B5 = max m (i + 1) by omega]; exact wc'
    · refine RT.itF ?_ ?_
      · intro z
        rw [nI_eq (by split <;> omega) (by split <;> omega)] at z
        unfold inB at eq
        by_cases x : ho (It E V0 i) p = ho (It E V0 i) o <;> cases b <;> simp [x] at eq z
      · rw [bnd_nr, show nI i + 1 = nI (i + 1) from nI_1 i]
        refine hk (_, _, _, _, _) ⟨fun j hj => ?_, wc'⟩
        by_cases ji : j = i
        · subst ji; exact Bool.eq_false_iff.mpr eq
        · exact no j (by omega)
theorem m_areIn {M : MS} {V : VT} (v : VM M 86 V) (w : WFP V) {p o : Nat} (hp : p < vn V) (ho9 : o < vn V) : f_X12_areIn M (nI p) (nI o) = some (nI (if ho V p = ho V o then 1 else 0)) := by
  have b0 := w.1
  have b1 := w.2.1 p hp
  have b2 := w.2.1 o ho9
  unfold f_X12_areIn
  simp (disch := omega) only [bnd_nr, li_0, li_1, li_2, li_3, li_4, li_5, li_6, li_7, li_8, li_9, li_10, li_11, li_12, li_13, li_14, li_15, li_16, li_17, li_18, li_19, li_20, li_21, li_22, li_23, li_24, li_25, li_26, li_27, li_28, li_29, li_30, li_31, li_32, li_33, li_34, li_35, li_36, li_37, li_38, li_39, li_40, li_41, li_42, li_43, li_44, li_45, li_46, li_47, li_48, li_49, li_50, li_51, li_52, li_53, li_54, li_55, li_56, li_57, li_58, li_59, li_60, li_61, li_62, li_63, li_64, li_74, li_86, li_87, li_88, li_96, li_97, li_98, li_99, li_100, li_101, li_102, li_103, li_104, li_105, li_107, li_108, li_109, li_110, li_111, li_112, li_114, li_115, li_116, li_117, li_118, li_121, li_122, li_124, li_136, li_148, li_160, li_680, li_200, li_201, li_255, li_700, li_950, li_1000, li_1400, li_3440, li_4096, li_9999, li_10000, li_20000, li_20033, li_20038, li_20124, li_32767, li_65535, li_1103515245, li_12345, li_m, sx_grd, sx_clamp, nI_add, sx_sub, pk_mul, sx_le, sx_lt, sx_eq, sx_eqm, sx_meq, sx_lem, sx_mle, sx_ltm, sx_mlt, sx_addm, sx_shl, sx_bit1, sx_bit0, fa_or, uA_s, uA_n, sA_s, sA_n, sx_uA, sx_uAn, sx_sAs, pk_us, pk_un, if_true, if_false, if_pos, if_neg, ob_some, Nat.add_zero, Nat.add_sub_cancel, eq_self, ne_eq, not_true, not_false_iff, false_or, true_or, or_false, or_true, false_and, true_and, and_false, and_true, v.h8 p hp, v.h8 o ho9]
  split <;> rfl
theorem m_whenIn {M : MS} {E : RE} {V : VT} (v : VM M 86 V) (w : WFV V) (ec : EC E M) (k : EOK E) {p o lim : Nat} {b : Bool} (hp : p < vn V) (ho9 : o < vn V) (hl : lim ≤ 100) (he : ve V + 101 ≤ 20000) : RT (f_X12_whenIn M (nI p) (nI o) (nI (if b then 1 else 0)) (nI lim)) (fun q => EVF M q.2 ∧ q.1 = if FW E V p o b (lim + 1) < lim + 1 then nI (FW E V p o b (lim + 1)) else nI 9999) := by
  refine RT.cps (fun Q hQ => ?_)
  unfold f_X12_whenIn
  refine RT.loop0 (fun n i (z : MS) => f_X12_whenIn_L3 (nI p) (nI o) (nI (if b then 1 else 0)) (nI lim) n (nI i) z) (lim + 1) (fun i z => (∀ j, j < i → (inB (It E V j) p o == b) = false) ∧ EVF M z ∧ VM z 86 (It E V i)) Q M (by omega) ⟨fun j hj => absurd hj (Nat.not_lt_zero _), EVF.refl M, v⟩ ?_ ?_
  · intro n z ⟨no, z1, z2⟩
    show RT (f_X12_whenIn_L3 (nI p) (nI o) (nI (if b then 1 else 0)) (nI lim) (n + 1) (nI (lim + 1)) z) _
    have f : FW E V p o b (lim + 1) = lim + 1 := first_none no
    unfold f_X12_whenIn_L3
    refine RT.itT (nI_lt (by omega) (by omega)) (RT.done hQ ⟨z1, by rw [f, if_neg (by omega)]; rfl⟩)
  · intro n i z hi ⟨no, z1, z2⟩ hk
    show RT (f_X12_whenIn_L3 (nI p) (nI o) (nI (if b then 1 else 0)) (nI lim) (n + 1) (nI i) z) _
    obtain ⟨wi, ei, ni⟩ := It_wf (E := E) w i (by omega)
    unfold f_X12_whenIn_L3
    refine RT.itF (nI_nlt (by omega) (by omega)) ?_
    rw [m_areIn z2 wi.1 (by omega) (by omega), ob_some]
    by_cases eq : (inB (It E V i) p o == b) = true
    · have f : FW E V p o b (lim + 1) = i := first_is hi eq no
      refine RT.itT ?_ (RT.done hQ ⟨z1, by rw [f, if_pos hi]⟩)
      unfold inB at eq
      cases b <;> simp at eq <;> simp [eq]
    · refine RT.itF ?_ ?_
      · intro z
        rw [nI_eq (by split <;> omega) (by split <;> omega)] at z
        unfold inB at eq
        by_cases x : ho (It E V i) p = ho (It E V i) o <;> cases b <;> simp [x] at eq z
      · refine RT.bind (m_ev86 z2 wi (ec.qf z1.qf) k (by omega)) (fun q ⟨q1, q2, q3⟩ => ?_)
        rw [bnd_nr, show nI i + 1 = nI (i + 1) from nI_1 i]
        refine hk _ ⟨fun j hj => ?_, z1.trans q1, q3⟩
        by_cases ji : j = i
        · subst ji; exact Bool.eq_false_iff.mpr eq
        · exact no j (by omega)
/-- goes, stays -/
def FG (E : RE) (V0 : VT) (p : Nat) : Nat := fa_first (fun j => gN E (It E V0 j) p) 100
def LSt (E : RE) (V0 : VT) (p : Nat) : Nat → Nat × Nat | 0 => (0, 0) | j + 1 => ((if (LSt E V0 p j).1 < (if gN E (It E V0 j) p then 0 else (LSt E V0 p j).2 + 1) then (if gN E (It E V0 j) p then 0 else (LSt E V0 p j).2 + 1) else (LSt E V0 p j).1), if gN E (It E V0 j) p then 0 else (LSt E V0 p j).2 + 1)
theorem LSt_le (E : RE) (V0 : VT) (p : Nat) : ∀ j, (LSt E V0 p j).1 ≤ j ∧ (LSt E V0 p j).2 ≤ j
  | 0 => ⟨Nat.le_refl _, Nat.le_refl _⟩
  | j + 1 => by
    have ih := LSt_le E V0 p j
    have hs : (if gN E (It E V0 j) p then 0 else (LSt E V0 p j).2 + 1) ≤ j + 1 := by split <;> omega
    rw [LSt]
    generalize (if gN E (It E V0 j) p then 0 else (LSt E V0 p j).2 + 1) = s at hs
    exact ⟨by show (if (LSt E V0 p j).1 < s then s else (LSt E V0 p j).1) ≤ j + 1; split <;> omega, hs⟩
theorem max_nI {a b : Nat} (ha : a < 2147483648) (hb : b < 2147483648) : (if nI a < nI b then nI b else nI a) = nI (if a < b then b else a) := by
  simp (disch := omega) only [sx_lt]
  split <;> rfl
theorem gm_bit {E : RE} {V0 : VT} {i p : Nat} (hp : p < vn V0) : (gm E V0 (i + 1)).testBit p = gN E (It E V0 i) p := by
  unfold gm
  rw [msk_bit, decide_eq_true hp, Bool.true_and]; rfl
theorem gm_lt {E : RE} {V0 : VT} {i : Nat} (h : vn V0 ≤ 12) : gm E V0 i < 2 ^ 12 := Nat.lt_of_lt_of_le (msk_lt _ _) (Nat.pow_le_pow_right (by omega) h)
theorem c_firstGoing {E : RE} {V0 : VT} {cs : CS} {D Rp Rk K : Ob} {fs : FS} {m p B5 : Nat} (c : WC E V0 m cs Rp Rk fs) (cw : CW E V0) (hp : p < vn V0) (hB : B5 = max m (min (FG E V0 p + 1) 100 + 1)) : RT (f_X1_firstGoing cs D Rp Rk K fs B5 (nI p)) (fun q => q.1 = (if FG E V0 p < 100 then nI (FG E V0 p + 1) else mO) ∧ WC E V0 B5 q.2.1 q.2.2.2.1 q.2.2.2.2.1 q.2.2.2.2.2) := by
  refine RT.cps (fun Q hQ => ?_)
  have m1 : 1 ≤ m := by obtain ⟨⟨rd, c9⟩, _⟩ := c; exact c9.1.2.1
  have b0 := cw.1.1.1
  unfold f_X1_firstGoing
  refine RT.loop0 (fun n i (y : CS × Ob × Ob × Ob × FS) => f_X1_firstGoing_L2 B5 (nI p) K n (nI (i + 1)) y.1 y.2.1 y.2.2.1 y.2.2.2.1 y.2.2.2.2) 100 (fun i y => (∀ j, j < i → gN E (It E V0 j) p = false) ∧ WC E V0 (max m (i + 1)) y.1 y.2.2.1 y.2.2.2.1 y.2.2.2.2) Q (cs, D, Rp, Rk, fs) (by omega) ⟨fun j hj => absurd hj (Nat.not_lt_zero _), by rw [show max m (0 + 1) = m by omega]; exact c⟩ ?_ ?_
  · intro n y ⟨no, wc⟩
    show RT (f_X1_firstGoing_L2 B5 (nI p) K (n + 1) (nI 101) y.1 y.2.1 y.2.2.1 y.2.2.2.1 y.2.2.2.2) _
    have f : FG E V0 p = 100 := first_none no
    rw [f] at hB
    unfold f_X1_firstGoing_L2
    refine RT.itT (show nI 100 < nI 101 from by decide) (RT.done hQ ⟨by rw [f]; rfl, ?_⟩)
    rw [show B5 = max m 101 by omega]; exact wc
  · intro n i y hi ⟨no, wc⟩ hk
    show RT (f_X1_firstGoing_L2 B5 (nI p) K (n + 1) (nI (i + 1)) y.1 y.2.1 y.2.2.1 y.2.2.2.1 y.2.2.2.2) _
    obtain ⟨⟨rd, wc1⟩, wc2, wc3⟩ := wc
    have ge : i ≤ FG E V0 p := first_ge no (by omega)
    have cnt : y.2.2.2.2.1 = max m (i + 1) := wc1.1.1
    unfold f_X1_firstGoing_L2
    refine RT.itF (show ¬ nI 100 < nI (i + 1) from nI_nlt (by omega) (by omega)) ?_
    rw [sx_clamp (by omega)]
    refine RT.bind (c_behind wc1 cw.1 cw.2.1 cw.2.2 wc2 wc3 (show i + 1 ≤ 200 by omega) (by rw [cnt])) (fun q ⟨q1, q2, q3, q4, q5, q6⟩ => ?_)
    have cnt2 : q.2.2.2.2.2.1 = max (max m (i + 1)) (i + 1 + 1) := q2.1.1
    refine RT.grd (decide_eq_true ⟨by omega, by rw [cnt2, cnt], by omega⟩) ?_
    rw [sx_grd (by omega) (by omega), q2.2.2.2.2 (i + 1) (by omega) (by omega)]
    have wc' : WC E V0 (max m (i + 1 + 1)) q.2.1 q.2.2.2.1 q.2.2.2.2.1 q.2.2.2.2.2 := ⟨⟨max rd (i + 1), by rw [show max m (i + 1 + 1) = max (max m (i + 1)) (i + 1 + 1) by omega]; exact q2⟩, q3, q4⟩
    have gl := gm_lt (E := E) (V0 := V0) (i := i + 1) b0.1
    have gb := gm_bit (E := E) (i := i) hp
    cases eq : gN E (It E V0 i) p
    · refine RT.itT ((sr1_0 (by omega) (by omega)).mpr (by rw [gb]; exact eq)) ?_
      rw [bnd_nr, show nI (i + 1) + 1 = nI (i + 1 + 1) from nI_1 _]
      refine hk (_, _, _, _, _) ⟨fun j hj => ?_, wc'⟩
      by_cases ji : j = i
      · subst ji; exact eq
      · exact no j (by omega)
    · have f : FG E V0 p = i := first_is hi eq no
      refine RT.itF (fun z => by rw [sr1_0 (by omega) (by omega), gb, eq] at z; cases z) (RT.done hQ ⟨by rw [f, if_pos hi], ?_⟩)
      rw [show B5 = max m (i + 1 + 1) by omega]; exact wc'
theorem c_longestStay {E : RE} {V0 : VT} {cs : CS} {D Rp Rk K : Ob} {fs : FS} {m p : Nat} (c : WC E V0 m cs Rp Rk fs) (cw : CW E V0) (hp : p < vn V0) : RT (f_X1_longestStay cs D Rp Rk K fs (max m 101) (nI p)) (fun q => q.1 = nI (LSt E V0 p 100).1 ∧ WC E V0 (max m 101) q.2.1 q.2.2.2.1 q.2.2.2.2.1 q.2.2.2.2.2) := by
  refine RT.cps (fun Q hQ => ?_)
  have m1 : 1 ≤ m := by obtain ⟨⟨rd, c9⟩, _⟩ := c; exact c9.1.2.1
  have b0 := cw.1.1.1
  unfold f_X1_longestStay
  refine RT.loop0 (fun n i (y : Int32 × Int32 × CS × Ob × Ob × Ob × FS) => f_X1_longestStay_L7 (max m 101) (nI p) K n y.1 y.2.1 (nI (i + 1)) y.2.2.1 y.2.2.2.1 y.2.2.2.2.1 y.2.2.2.2.2.1 y.2.2.2.2.2.2) 100 (fun i y => y.1 = nI (LSt E V0 p i).1 ∧ y.2.1 = nI (LSt E V0 p i).2 ∧ WC E V0 (max m (i + 1)) y.2.2.1 y.2.2.2.2.1 y.2.2.2.2.2.1 y.2.2.2.2.2.2) Q (nI 0, nI 0, cs, D, Rp, Rk, fs) (by omega) ⟨rfl, rfl, by rw [show max m (0 + 1) = m by omega]; exact c⟩ ?_ ?_
  · intro n y ⟨y1, y2, wc⟩
    show RT (f_X1_longestStay_L7 (max m 101) (nI p) K (n + 1) y.1 y.2.1 (nI 101) y.2.2.1 y.2.2.2.1 y.2.2.2.2.1 y.2.2.2.2.2.1 y.2.2.2.2.2.2) _
    unfold f_X1_longestStay_L7
    exact RT.itT (show nI 100 < nI 101 from by decide) (RT.done hQ ⟨y1, wc⟩)
  · intro n i y hi ⟨y1, y2, wc⟩ hk
    show RT (f_X1_longestStay_L7 (max m 101) (nI p) K (n + 1) y.1 y.2.1 (nI (i + 1)) y.2.2.1 y.2.2.2.1 y.2.2.2.2.1 y.2.2.2.2.2.1 y.2.2.2.2.2.2) _
    obtain ⟨⟨rd, wc1⟩, wc2, wc3⟩ := wc
    have cnt : y.2.2.2.2.2.2.1 = max m (i + 1) := wc1.1.1
    have ll := LSt_le E V0 p i
    unfold f_X1_longestStay_L7
    refine RT.itF (show ¬ nI 100 < nI (i + 1) from nI_nlt (by omega) (by omega)) ?_
    rw [sx_clamp (by omega)]
    refine RT.bind (c_behind wc1 cw.1 cw.2.1 cw.2.2 wc2 wc3 (show i + 1 ≤ 200 by omega) (by rw [cnt])) (fun q ⟨q1, q2, q3, q4, q5, q6⟩ => ?_)
    have cnt2 : q.2.2.2.2.2.1 = max (max m (i + 1)) (i + 1 + 1) := q2.1.1
    refine RT.grd (decide_eq_true ⟨by omega, by rw [cnt2, cnt], by omega⟩) ?_
    rw [sx_grd (by omega) (by omega), q2.2.2.2.2 (i + 1) (by omega) (by omega)]
    have wc' : WC E V0 (max m (i + 1 + 1)) q.2.1 q.2.2.2.1 q.2.2.2.2.1 q.2.2.2.2.2 := ⟨⟨max rd (i + 1), by rw [show max m (i + 1 + 1) = max (max m (i + 1)) (i + 1 + 1) by omega]; exact q2⟩, q3, q4⟩
    have gl := gm_lt (E := E) (V0 := V0) (i := i + 1) b0.1
    have gb := gm_bit (E := E) (i := i) hp
    unfold f_X1_longestStay_J42
    rw [y1, y2]
    cases eq : gN E (It E V0 i) p
    · refine RT.itT ((sr1_0 (by omega) (by omega)).mpr (by rw [gb]; exact eq)) ?_
      rw [bnd_nr, bnd_nr, show nI (i + 1) + 1 = nI (i + 1 + 1) from nI_1 _, show nI (LSt E V0 p i).2 + 1 = nI ((LSt E V0 p i).2 + 1) from nI_1 _]
      refine hk (_, _, _, _, _, _, _) ⟨?_, ?_, wc'⟩
      · rw [LSt, eq]; exact max_nI (by omega) (by omega)
      · rw [LSt, eq]; rfl
    · refine RT.itF (fun z => by rw [sr1_0 (by omega) (by omega), gb, eq] at z; cases z) ?_
      rw [bnd_nr, bnd_nr, show nI (i + 1) + 1 = nI (i + 1 + 1) from nI_1 _]
      refine hk (_, _, _, _, _, _, _) ⟨?_, ?_, wc'⟩
      · rw [LSt, eq]; exact max_nI (b := 0) (by omega) (by omega)
      · rw [LSt, eq]; rfl
theorem m_goes0 {M : MS} {E : RE} {V : VT} (v : VM M 86 V) (w : WFV V) (ec : EC E M) (k : EOK E) {p : Nat} (hp : p < vn V) (he : ve V + 101 ≤ 20000) (x : Int32) : RT (f_X12_goes_L39 (nI p) x FUEL mO (nI 0) (nI 0) (nI 1) M) (fun q => EVF M q.2 ∧ q.1 = if x = 0 then (if FG E V p < 100 then nI (FG E V p + 1) else mO) else nI (LSt E V p 100).1) := by
  have b0 := w.1.1
  refine RT.cps (fun Q hQ => ?_)
  refine RT.loop0 (fun n i (y : Int32 × Int32 × Int32 × MS) => f_X12_goes_L39 (nI p) x n y.1 y.2.1 y.2.2.1 (nI (i + 1)) y.2.2.2) 100 (fun i y => ((y.1 = mO ∧ ∀ j, j < i → gN E (It E V j) p = false) ∨ ∃ j, j < i ∧ y.1 = nI (j + 1) ∧ gN E (It E V j) p = true ∧ ∀ l, l < j → gN E (It E V l) p = false) ∧ y.2.1 = nI (LSt E V p i).1 ∧ y.2.2.1 = nI (LSt E V p i).2 ∧ EVF M y.2.2.2 ∧ VM y.2.2.2 86 (It E V i)) Q (mO, nI 0, nI 0, M) (by omega) ⟨Or.inl ⟨rfl, fun j hj => absurd hj (Nat.not_lt_zero _)⟩, rfl, rfl, EVF.refl M, v⟩ ?_ ?_
  · intro n y ⟨y1, y2, y3, y4, y5⟩
    show RT (f_X12_goes_L39 (nI p) x (n + 1) y.1 y.2.1 y.2.2.1 (nI 101) y.2.2.2) _
    unfold f_X12_goes_L39
    refine RT.itT (show nI 100 < nI 101 from by decide) (RT.ite (fun d => RT.done hQ ⟨y4, ?_⟩) (fun d => RT.done hQ ⟨y4, ?_⟩))
    · rw [if_pos d]
      rcases y1 with ⟨a, no⟩ | ⟨j, j1, j2, j3, j4⟩
      · rw [show FG E V p = 100 from first_none no, if_neg (by omega)]; exact a
      · rw [show FG E V p = j from first_is j1 j3 j4, if_pos j1]; exact j2
    · rw [if_neg d]; exact y2
  · intro n i y hi ⟨y1, y2, y3, y4, y5⟩ hk
    show RT (f_X12_goes_L39 (nI p) x (n + 1) y.1 y.2.1 y.2.2.1 (nI (i + 1)) y.2.2.2) _
    obtain ⟨wi, ei, ni⟩ := It_wf (E := E) w i (by omega)
    have ll := LSt_le E V p i
    unfold f_X12_goes_L39
    refine RT.itF (show ¬ nI 100 < nI (i + 1) from nI_nlt (by omega) (by omega)) ?_
    refine RT.bind (m_ev86 y5 wi (ec.qf y4.qf) k (by omega)) (fun q ⟨q1, q2, q3⟩ => ?_)
    have ml := msk31 (f := gN E (It E V i)) (n := vn (It E V i)) (by omega)
    have mb : (msk (gN E (It E V i)) (vn (It E V i))).testBit p = gN E (It E V i) p := by rw [msk_bit, decide_eq_true (by omega), Bool.true_and]
    rw [q2, y2, y3]
    have fin : ∀ (a : Int32) (s : Nat), ((a = mO ∧ ∀ j, j < i + 1 → gN E (It E V j) p = false) ∨ ∃ j, j < i + 1 ∧ a = nI (j + 1) ∧ gN E (It E V j) p = true ∧ ∀ l, l < j → gN E (It E V l) p = false) → s = (LSt E V p (i + 1)).2 → s ≤ i + 1 → (LSt E V p (i + 1)).1 = (if (LSt E V p i).1 < s then s else (LSt E V p i).1) → RT (f_X12_goes_J97 (f_X12_goes_L39 (nI p) x n) (nI p) x a (nI (LSt E V p i).1) (nI (i + 1)) (nI s) q) Q := by
      intro a s h1 h2 h3 h4
      unfold f_X12_goes_J97
      rw [bnd_nr, bnd_nr, show nI (i + 1) + 1 = nI (i + 1 + 1) from nI_1 _]
      simp (disch := omega) only [sx_le]
      refine RT.ite (fun d => ?_) (fun d => ?_)
      · exact hk (_, _, _, _) ⟨h1, by rw [h4, if_neg (by omega)]; rfl, by rw [h2]; rfl, y4.trans q1, q3⟩
      · exact hk (_, _, _, _) ⟨h1, by rw [h4, if_pos (by omega)]; rfl, by rw [h2]; rfl, y4.trans q1, q3⟩
    cases eq : gN E (It E V i) p
    · refine RT.itF (fun z => by rw [sr1_1 (by omega) (by omega), mb, eq] at z; cases z) ?_
      unfold f_X12_goes_J69 f_X12_goes_J84
      refine RT.itT rfl (RT.itT rfl ?_)
      rw [show nI (LSt E V p i).2 + 1 = nI ((LSt E V p i).2 + 1) from nI_1 _]
      refine fin _ _ ?_ (by rw [LSt, eq]; rfl) (by omega) (by rw [LSt, eq]; rfl)
      rcases y1 with ⟨a, no⟩ | ⟨j, j1, j2, j3, j4⟩
      · refine Or.inl ⟨a, fun j hj => ?_⟩
        by_cases ji : j = i
        · subst ji; exact eq
        · exact no j (by omega)
      · exact Or.inr ⟨j, by omega, j2, j3, j4⟩
    · refine RT.itT ((sr1_1 (by omega) (by omega)).mpr (by rw [mb]; exact eq)) ?_
      unfold f_X12_goes_J69 f_X12_goes_J84
      refine RT.itF (by decide) ?_
      rcases y1 with ⟨a, no⟩ | ⟨j, j1, j2, j3, j4⟩
      · refine RT.itT a (RT.itF (by decide) ?_)
        exact fin (nI (i + 1)) 0 (Or.inr ⟨i, by omega, rfl, eq, no⟩) (by rw [LSt, eq]; rfl) (by omega) (by rw [LSt, eq]; rfl)
      · refine RT.itF (by rw [j2]; show ¬ nI (j + 1) = mO; rw [sx_eqm (by omega)]; exact fun z => z) (RT.itF (by decide) ?_)
        exact fin y.1 0 (Or.inr ⟨j, by omega, j2, j3, j4⟩) (by rw [LSt, eq]; rfl) (by omega) (by rw [LSt, eq]; rfl)
/-- a house falls when each of its people has gone -/
def stB (E : RE) (V0 : VT) (j p : Nat) : Bool := decide (fb_ct (fun i => gN E (It E V0 i) p) j = 0)
theorem stB_iff {E : RE} {V0 : VT} {j p : Nat} : stB E V0 j p = true ↔ ∀ i, i < j → gN E (It E V0 i) p = false := by
  unfold stB
  rw [decide_eq_true_eq, fb_ct_zero]
theorem stB_succ {E : RE} {V0 : VT} {j p : Nat} : stB E V0 (j + 1) p = (stB E V0 j p && !gN E (It E V0 j) p) := bool_eq (by
  rw [Bool.and_eq_true, stB_iff, stB_iff, Bool.not_eq_true']
  constructor
  · intro h; exact ⟨fun i hi => h i (by omega), h j (by omega)⟩
  · intro ⟨h1, h2⟩ i hi
    by_cases ij : i = j
    · subst ij; exact h2
    · exact h1 i (by omega))
theorem idd_it {E : RE} {V0 : VT} (w : WFV V0) (hid : ∀ h, h < vh V0 → idd V0 h = nI h) : ∀ j, ve V0 + j ≤ 20000 → ∀ p, p < vn V0 → idd (It E V0 j) (ho (It E V0 j) p) = (if stB E V0 j p then nI (ho V0 p) else mO)
  | 0, _, p, hp => hid _ (w.1.2.1 p hp).1
  | j + 1, hj, p, hp => by
    obtain ⟨wj, ej, nj⟩ := It_wf (E := E) w j (by omega)
    have ih := idd_it (E := E) w hid j (by omega) p hp
    have wg : WFP (goV (gN E (It E V0 j)) (It E V0 j)) := WFP_go wj (GOK_go (E := E) (H := nh) wj.1) (by omega)
    have hp2 : p < vn (goV (gN E (It E V0 j)) (It E V0 j)) := by show p < vn (It E V0 j); omega
    have e : idd (It E V0 (j + 1)) (ho (It E V0 (j + 1)) p) = idd (goV (gN E (It E V0 j)) (It E V0 j)) (ho (goV (gN E (It E V0 j)) (It E V0 j)) p) := by
      show idd (goV (gN E (It E V0 j)) (It E V0 j)) (kt (ne (goV (gN E (It E V0 j)) (It E V0 j))) (vh (goV (gN E (It E V0 j)) (It E V0 j))) (nx (goV (gN E (It E V0 j)) (It E V0 j)) (ho (goV (gN E (It E V0 j)) (It E V0 j)) p))) = _
      rw [show nx (goV (gN E (It E V0 j)) (It E V0 j)) (ho (goV (gN E (It E V0 j)) (It E V0 j)) p) = fb_ct (ne (goV (gN E (It E V0 j)) (It E V0 j))) (ho (goV (gN E (It E V0 j)) (It E V0 j)) p) from rfl, kt_ct (wg.2.1 p hp2).1 (ne_ho hp2)]
    rw [e, stB_succ]
    show (if (if gN E (It E V0 j) p then vh (It E V0 j) else ho (It E V0 j) p) < vh (It E V0 j) then idd (It E V0 j) (if gN E (It E V0 j) p then vh (It E V0 j) else ho (It E V0 j) p) else -1) = _
    cases eq : gN E (It E V0 j) p
    · rw [Bool.not_false, Bool.and_true, ← ih]
      simp only [Bool.false_eq_true, if_false]
      rw [if_pos (wj.1.2.1 p (by omega)).1]
    · rw [Bool.not_true, Bool.and_false]
      simp only [if_true, Nat.lt_irrefl, if_false, Bool.false_eq_true]
      rfl
def leB (E : RE) (V0 : VT) (h j : Nat) : Bool := decide (0 < fb_ct (fun p => decide (ho V0 p = h) && stB E V0 j p) (vn V0))
theorem leB_iff {E : RE} {V0 : VT} {h j : Nat} : leB E V0 h j = true ↔ ∃ p, p < vn V0 ∧ ho V0 p = h ∧ stB E V0 j p = true := by
  unfold leB
  rw [decide_eq_true_eq, fb_ct_pos]
  simp only [Bool.and_eq_true, decide_eq_true_eq]
theorem idd_ex {E : RE} {V0 : VT} (w : WFV V0) (hid : ∀ h, h < vh V0 → idd V0 h = nI h) {j h : Nat} (hj : ve V0 + j ≤ 20000) (hh9 : h < vh V0) : (∃ x, x < vh (It E V0 j) ∧ idd (It E V0 j) x = nI h) ↔ leB E V0 h j = true := by
  obtain ⟨wj, ej, nj⟩ := It_wf (E := E) w j hj
  have b0 := w.1.1
  rw [leB_iff]
  constructor
  · intro ⟨x, x1, x2⟩
    obtain ⟨p, p1, p2⟩ := sz_ex (wj.2 x x1)
    have i := idd_it (E := E) w hid j hj p (by omega)
    rw [p2, x2] at i
    by_cases s : stB E V0 j p = true
    · rw [if_pos s, nI_eq (by omega) (by have := (w.1.2.1 p (by omega)).1; omega)] at i
      exact ⟨p, by omega, i.symm, s⟩
    · rw [if_neg s] at i
      exact absurd i (by rw [sx_eqm (by omega)]; exact fun z => z)
  · intro ⟨p, p1, p2, p3⟩
    refine ⟨ho (It E V0 j) p, (wj.1.2.1 p (by omega)).1, ?_⟩
    rw [idd_it (E := E) w hid j hj p p1, if_pos p3, p2]
def FL (E : RE) (V0 : VT) (h : Nat) : Nat := fa_first (fun j => !leB E V0 h (j + 1)) 100
theorem c_firstEmpty {E : RE} {V0 : VT} {cs : CS} {D Rp Rk K : Ob} {fs : FS} {m h B5 : Nat} (c : WC E V0 m cs Rp Rk fs) (cw : CW E V0) (hh9 : h < vh V0) (hB : B5 = max m (min (FL E V0 h + 1) 100 + 1)) : RT (f_X1_firstEmpty cs D Rp Rk K fs B5 (nI h)) (fun q => q.1 = (if FL E V0 h < 100 then nI (FL E V0 h + 1) else mO) ∧ WC E V0 B5 q.2.1 q.2.2.2.1 q.2.2.2.2.1 q.2.2.2.2.2) := by
  refine RT.cps (fun Q hQ => ?_)
  have b0 := cw.1.1.1
  obtain ⟨⟨rd0, c0⟩, c1, c2⟩ := c
  have m1 : 1 ≤ m := c0.1.2.1
  have v0 : VC (fs.2.2 0) V0 := c0.2.2.2.1 0 (by omega)
  unfold f_X1_firstEmpty
  refine RT.grd (decide_eq_true (by rw [c0.1.1]; omega)) ?_
  rw [c_dwellers v0 cw.1.1 (by omega), ob_some]
  refine RT.loop0 (fun n i (y : Int32 × CS × Ob × Ob × Ob × FS) => f_X1_firstEmpty_L11 B5 K n y.1 (nI (i + 1)) y.2.1 y.2.2.1 y.2.2.2.1 y.2.2.2.2.1 y.2.2.2.2.2) 100 (fun i y => (∀ j, j < i → (!leB E V0 h (j + 1)) = false) ∧ (∃ l, y.1 = nI l ∧ l < 2 ^ 12 ∧ ∀ p, p < 12 → l.testBit p = (decide (p < vn V0) && (decide (ho V0 p = h) && stB E V0 i p))) ∧ WC E V0 (max m (i + 1)) y.2.1 y.2.2.2.1 y.2.2.2.2.1 y.2.2.2.2.2) Q (nI (dw V0 h), cs, D, Rp, Rk, fs) (by omega) ⟨fun j hj => absurd hj (Nat.not_lt_zero _), ⟨_, rfl, Nat.lt_of_lt_of_le (dw_lt V0 h) (Nat.pow_le_pow_right (by omega) b0.1), fun p _ => ?_⟩, by rw [show max m (0 + 1) = m by omega]; exact ⟨⟨rd0, c0⟩, c1, c2⟩⟩ ?_ ?_
  · unfold dw
    rw [msk_bit, show stB E V0 0 p = true from stB_iff.mpr (fun i hi => absurd hi (Nat.not_lt_zero _)), Bool.and_true]
  · intro n y ⟨no, _, wc⟩
    show RT (f_X1_firstEmpty_L11 B5 K (n + 1) y.1 (nI 101) y.2.1 y.2.2.1 y.2.2.2.1 y.2.2.2.2.1 y.2.2.2.2.2) _
    have f : FL E V0 h = 100 := first_none no
    rw [f] at hB
    unfold f_X1_firstEmpty_L11
    refine RT.itT (show nI 100 < nI 101 from by decide) (RT.done hQ ⟨by rw [f]; rfl, ?_⟩)
    rw [show B5 = max m 101 by omega]; exact wc
  · intro n i y hi ⟨no, ⟨l, l1, l2, l3⟩, wc⟩ hk
    show RT (f_X1_firstEmpty_L11 B5 K (n + 1) y.1 (nI (i + 1)) y.2.1 y.2.2.1 y.2.2.2.1 y.2.2.2.2.1 y.2.2.2.2.2) _
    obtain ⟨⟨rd, wc1⟩, wc2, wc3⟩ := wc
    have ge : i ≤ FL E V0 h := first_ge no (by omega)
    have cnt : y.2.2.2.2.2.1 = max m (i + 1) := wc1.1.1
    unfold f_X1_firstEmpty_L11
    refine RT.itF (show ¬ nI 100 < nI (i + 1) from nI_nlt (by omega) (by omega)) ?_
    rw [sx_clamp (by omega)]
    refine RT.bind (c_behind wc1 cw.1 cw.2.1 cw.2.2 wc2 wc3 (show i + 1 ≤ 200 by omega) (by rw [cnt])) (fun q ⟨q1, q2, q3, q4, q5, q6⟩ => ?_)
    have cnt2 : q.2.2.2.2.2.1 = max (max m (i + 1)) (i + 1 + 1) := q2.1.1
    refine RT.grd (decide_eq_true ⟨by omega, by rw [cnt2, cnt], by omega⟩) ?_
    rw [sx_grd (by omega) (by omega), q2.2.2.2.2 (i + 1) (by omega) (by omega), l1, bnd_nr, show (-1 : Int32) = mO from rfl, sx_andn (by omega)]
    have wc' : WC E V0 (max m (i + 1 + 1)) q.2.1 q.2.2.2.1 q.2.2.2.2.1 q.2.2.2.2.2 := ⟨⟨max rd (i + 1), by rw [show max m (i + 1 + 1) = max (max m (i + 1)) (i + 1 + 1) by omega]; exact q2⟩, q3, q4⟩
    have al := anN_lt (b := gm E V0 (i + 1)) l2
    have ab : ∀ p, p < 12 → (anN l (gm E V0 (i + 1))).testBit p = (decide (p < vn V0) && (decide (ho V0 p = h) && stB E V0 (i + 1) p)) := by
      intro p hp
      rw [anN_bit (by omega), l3 p hp, stB_succ]
      by_cases pn : p < vn V0
      · rw [gm_bit pn]; cases decide (p < vn V0) <;> cases decide (ho V0 p = h) <;> cases stB E V0 i p <;> rfl
      · rw [decide_eq_false pn]; rfl
    have zero : anN l (gm E V0 (i + 1)) = 0 ↔ leB E V0 h (i + 1) = false := by
      constructor
      · intro z
        refine Bool.eq_false_iff.mpr (fun t => ?_)
        obtain ⟨p, p1, p2, p3⟩ := leB_iff.mp t
        have := ab p (by omega)
        rw [z, Nat.zero_testBit, decide_eq_true p1, decide_eq_true p2, p3] at this
        cases this
      · intro z
        refine bit_ext (n := 12) al (by omega) (fun p hp => ?_)
        rw [ab p hp, Nat.zero_testBit]
        refine Bool.eq_false_iff.mpr (fun t => ?_)
        rw [Bool.and_eq_true, Bool.and_eq_true, decide_eq_true_eq, decide_eq_true_eq] at t
        rw [leB_iff.mpr ⟨p, t.1, t.2.1, t.2.2⟩] at z; cases z
    cases eq : leB E V0 h (i + 1)
    · have f : FL E V0 h = i := first_is hi (by show (!leB E V0 h (i + 1)) = true; rw [eq]; rfl) no
      refine RT.itT (by rw [zero.mpr eq]; rfl) (RT.done hQ ⟨by rw [f, if_pos hi], ?_⟩)
      rw [show B5 = max m (i + 1 + 1) by omega]; exact wc'
    · refine RT.itF (fun z => ?_) ?_
      · have z := (nI_eq (a := anN l (gm E V0 (i + 1))) (b := 0) (by omega) (by omega)).mp z
        rw [zero.mp z] at eq; cases eq
      · rw [bnd_nr, show nI (i + 1) + 1 = nI (i + 1 + 1) from nI_1 _]
        refine hk (_, _, _, _, _, _) ⟨fun j hj => ?_, ⟨_, rfl, al, ab⟩, wc'⟩
        by_cases ji : j = i
        · subst ji; rw [eq]; rfl
        · exact no j (by omega)
theorem m_falls9 {M : MS} {E : RE} {V : VT} (v : VM M 86 V) (w : WFV V) (hid : ∀ h, h < vh V → idd V h = nI h) (ec : EC E M) (k : EOK E) {h : Nat} (hh9 : h < vh V) (he : ve V + 101 ≤ 20000) : RT (f_X12_falls_L21 (nI h) FUEL (nI 1) M) (fun q => EVF M q.2 ∧ q.1 = if FL E V h < 100 then nI (FL E V h + 1) else mO) := by
  have b0 := w.1.1
  refine RT.cps (fun Q hQ => ?_)
  refine RT.loop0 (fun n i (z : MS) => f_X12_falls_L21 (nI h) n (nI (i + 1)) z) 100 (fun i z => (∀ j, j < i → (!leB E V h (j + 1)) = false) ∧ EVF M z ∧ VM z 86 (It E V i)) Q M (by omega) ⟨fun j hj => absurd hj (Nat.not_lt_zero _), EVF.refl M, v⟩ ?_ ?_
  · intro n z ⟨no, z1, z2⟩
    show RT (f_X12_falls_L21 (nI h) (n + 1) (nI 101) z) _
    have f : FL E V h = 100 := first_none no
    unfold f_X12_falls_L21
    exact RT.itT (show nI 100 < nI 101 from by decide) (RT.done hQ ⟨z1, by rw [f]; rfl⟩)
  · intro n i z hi ⟨no, z1, z2⟩ hk
    show RT (f_X12_falls_L21 (nI h) (n + 1) (nI (i + 1)) z) _
    obtain ⟨wi, ei, ni⟩ := It_wf (E := E) w i (by omega)
    obtain ⟨wj, ej, nj⟩ := It_wf (E := E) w (i + 1) (by omega)
    have hnj := wj.hn
    unfold f_X12_falls_L21
    refine RT.itF (show ¬ nI 100 < nI (i + 1) from nI_nlt (by omega) (by omega)) ?_
    refine RT.bind (m_ev86 z2 wi (ec.qf z1.qf) k (by omega)) (fun q ⟨q1, q2, q3⟩ => ?_)
    have q3 : VM q 86 (It E V (i + 1)) := q3
    have ex := idd_ex (E := E) w hid (j := i + 1) (by omega) hh9
    refine RT.loop0 (fun n2 x (l3 : Int32) => f_X12_falls_L38 (f_X12_falls_L21 (nI h) n) (nI h) (nI (i + 1)) q n2 l3 (nI x)) (vh (It E V (i + 1))) (fun x l3 => (l3 = nI 0 ∧ ∀ t, t < x → idd (It E V (i + 1)) t ≠ nI h) ∨ (l3 = nI 1 ∧ ∃ t, t < vh (It E V (i + 1)) ∧ idd (It E V (i + 1)) t = nI h)) _ _ (by omega) (Or.inl ⟨rfl, fun t ht => absurd ht (Nat.not_lt_zero _)⟩) ?_ ?_
    · intro n2 l3 g
      show RT (f_X12_falls_L38 (f_X12_falls_L21 (nI h) n) (nI h) (nI (i + 1)) q (n2 + 1) l3 (nI (vh (It E V (i + 1))))) _
      unfold f_X12_falls_L38
      rcases g with ⟨g1, g2⟩ | ⟨g1, g2⟩
      · subst g1
        simp (disch := omega) only [bnd_nr, li_0, li_1, li_2, li_3, li_4, li_5, li_6, li_7, li_8, li_9, li_10, li_11, li_12, li_13, li_14, li_15, li_16, li_17, li_18, li_19, li_20, li_21, li_22, li_23, li_24, li_25, li_26, li_27, li_28, li_29, li_30, li_31, li_32, li_33, li_34, li_35, li_36, li_37, li_38, li_39, li_40, li_41, li_42, li_43, li_44, li_45, li_46, li_47, li_48, li_49, li_50, li_51, li_52, li_53, li_54, li_55, li_56, li_57, li_58, li_59, li_60, li_61, li_62, li_63, li_64, li_74, li_86, li_87, li_88, li_96, li_97, li_98, li_99, li_100, li_101, li_102, li_103, li_104, li_105, li_107, li_108, li_109, li_110, li_111, li_112, li_114, li_115, li_116, li_117, li_118, li_121, li_122, li_124, li_136, li_148, li_160, li_680, li_200, li_201, li_255, li_700, li_950, li_1000, li_1400, li_3440, li_4096, li_9999, li_10000, li_20000, li_20033, li_20038, li_20124, li_32767, li_65535, li_1103515245, li_12345, li_m, sx_grd, sx_clamp, nI_add, sx_sub, pk_mul, sx_le, sx_lt, sx_eq, sx_eqm, sx_meq, sx_lem, sx_mle, sx_ltm, sx_mlt, sx_addm, sx_shl, sx_bit1, sx_bit0, fa_or, uA_s, uA_n, sA_s, sA_n, sx_uA, sx_uAn, sx_sAs, pk_us, pk_un, if_true, if_false, if_pos, if_neg, ob_some, Nat.add_zero, Nat.add_sub_cancel, eq_self, ne_eq, not_true, not_false_iff, false_or, true_or, or_false, or_true, false_and, true_and, and_false, and_true, q3.n8]
        have eq : leB E V h (i + 1) = false := Bool.eq_false_iff.mpr (fun t => by
          obtain ⟨x, x1, x2⟩ := ex.mpr t
          exact g2 x x1 x2)
        have f : FL E V h = i := first_is hi (by show (!leB E V h (i + 1)) = true; rw [eq]; rfl) no
        exact RT.done hQ ⟨z1.trans q1, by rw [f, if_pos hi]⟩
      · subst g1
        simp (disch := omega) only [bnd_nr, li_0, li_1, li_2, li_3, li_4, li_5, li_6, li_7, li_8, li_9, li_10, li_11, li_12, li_13, li_14, li_15, li_16, li_17, li_18, li_19, li_20, li_21, li_22, li_23, li_24, li_25, li_26, li_27, li_28, li_29, li_30, li_31, li_32, li_33, li_34, li_35, li_36, li_37, li_38, li_39, li_40, li_41, li_42, li_43, li_44, li_45, li_46, li_47, li_48, li_49, li_50, li_51, li_52, li_53, li_54, li_55, li_56, li_57, li_58, li_59, li_60, li_61, li_62, li_63, li_64, li_74, li_86, li_87, li_88, li_96, li_97, li_98, li_99, li_100, li_101, li_102, li_103, li_104, li_105, li_107, li_108, li_109, li_110, li_111, li_112, li_114, li_115, li_116, li_117, li_118, li_121, li_122, li_124, li_136, li_148, li_160, li_680, li_200, li_201, li_255, li_700, li_950, li_1000, li_1400, li_3440, li_4096, li_9999, li_10000, li_20000, li_20033, li_20038, li_20124, li_32767, li_65535, li_1103515245, li_12345, li_m, sx_grd, sx_clamp, nI_add, sx_sub, pk_mul, sx_le, sx_lt, sx_eq, sx_eqm, sx_meq, sx_lem, sx_mle, sx_ltm, sx_mlt, sx_addm, sx_shl, sx_bit1, sx_bit0, fa_or, uA_s, uA_n, sA_s, sA_n, sx_uA, sx_uAn, sx_sAs, pk_us, pk_un, if_true, if_false, if_pos, if_neg, ob_some, Nat.add_zero, Nat.add_sub_cancel, eq_self, ne_eq, not_true, not_false_iff, false_or, true_or, or_false, or_true, false_and, true_and, and_false, and_true, q3.n8]
        refine hk _ ⟨fun j hj => ?_, z1.trans q1, q3⟩
        by_cases ji : j = i
        · subst ji; rw [ex.mp g2]; rfl
        · exact no j (by omega)
    · intro n2 x l3 hx g hk2
      show RT (f_X12_falls_L38 (f_X12_falls_L21 (nI h) n) (nI h) (nI (i + 1)) q (n2 + 1) l3 (nI x)) _
      unfold f_X12_falls_L38
      rcases g with ⟨g1, g2⟩ | ⟨g1, g2⟩
      · subst g1
        simp (disch := omega) only [bnd_nr, li_0, li_1, li_2, li_3, li_4, li_5, li_6, li_7, li_8, li_9, li_10, li_11, li_12, li_13, li_14, li_15, li_16, li_17, li_18, li_19, li_20, li_21, li_22, li_23, li_24, li_25, li_26, li_27, li_28, li_29, li_30, li_31, li_32, li_33, li_34, li_35, li_36, li_37, li_38, li_39, li_40, li_41, li_42, li_43, li_44, li_45, li_46, li_47, li_48, li_49, li_50, li_51, li_52, li_53, li_54, li_55, li_56, li_57, li_58, li_59, li_60, li_61, li_62, li_63, li_64, li_74, li_86, li_87, li_88, li_96, li_97, li_98, li_99, li_100, li_101, li_102, li_103, li_104, li_105, li_107, li_108, li_109, li_110, li_111, li_112, li_114, li_115, li_116, li_117, li_118, li_121, li_122, li_124, li_136, li_148, li_160, li_680, li_200, li_201, li_255, li_700, li_950, li_1000, li_1400, li_3440, li_4096, li_9999, li_10000, li_20000, li_20033, li_20038, li_20124, li_32767, li_65535, li_1103515245, li_12345, li_m, sx_grd, sx_clamp, nI_add, sx_sub, pk_mul, sx_le, sx_lt, sx_eq, sx_eqm, sx_meq, sx_lem, sx_mle, sx_ltm, sx_mlt, sx_addm, sx_shl, sx_bit1, sx_bit0, fa_or, uA_s, uA_n, sA_s, sA_n, sx_uA, sx_uAn, sx_sAs, pk_us, pk_un, if_true, if_false, if_pos, if_neg, ob_some, Nat.add_zero, Nat.add_sub_cancel, eq_self, ne_eq, not_true, not_false_iff, false_or, true_or, or_false, or_true, false_and, true_and, and_false, and_true, q3.n8, q3.i8 x hx]
        refine RT.ite (fun d => hk2 _ (Or.inr ⟨rfl, x, hx, d⟩)) (fun d => hk2 _ (Or.inl ⟨rfl, fun t ht => ?_⟩))
        by_cases tx : t = x
        · subst tx; exact d
        · exact g2 t (by omega)
      · subst g1
        simp (disch := omega) only [bnd_nr, li_0, li_1, li_2, li_3, li_4, li_5, li_6, li_7, li_8, li_9, li_10, li_11, li_12, li_13, li_14, li_15, li_16, li_17, li_18, li_19, li_20, li_21, li_22, li_23, li_24, li_25, li_26, li_27, li_28, li_29, li_30, li_31, li_32, li_33, li_34, li_35, li_36, li_37, li_38, li_39, li_40, li_41, li_42, li_43, li_44, li_45, li_46, li_47, li_48, li_49, li_50, li_51, li_52, li_53, li_54, li_55, li_56, li_57, li_58, li_59, li_60, li_61, li_62, li_63, li_64, li_74, li_86, li_87, li_88, li_96, li_97, li_98, li_99, li_100, li_101, li_102, li_103, li_104, li_105, li_107, li_108, li_109, li_110, li_111, li_112, li_114, li_115, li_116, li_117, li_118, li_121, li_122, li_124, li_136, li_148, li_160, li_680, li_200, li_201, li_255, li_700, li_950, li_1000, li_1400, li_3440, li_4096, li_9999, li_10000, li_20000, li_20033, li_20038, li_20124, li_32767, li_65535, li_1103515245, li_12345, li_m, sx_grd, sx_clamp, nI_add, sx_sub, pk_mul, sx_le, sx_lt, sx_eq, sx_eqm, sx_meq, sx_lem, sx_mle, sx_ltm, sx_mlt, sx_addm, sx_shl, sx_bit1, sx_bit0, fa_or, uA_s, uA_n, sA_s, sA_n, sx_uA, sx_uAn, sx_sAs, pk_us, pk_un, if_true, if_false, if_pos, if_neg, ob_some, Nat.add_zero, Nat.add_sub_cancel, eq_self, ne_eq, not_true, not_false_iff, false_or, true_or, or_false, or_true, false_and, true_and, and_false, and_true, q3.n8]
        exact hk2 _ (Or.inr ⟨rfl, g2⟩)
/-- how often two live in one -/
def TG (E : RE) (V0 : VT) (p o n : Nat) : Nat := fb_ct (fun i => inB (It E V0 (i + 1)) p o) n
theorem c_together {E : RE} {V0 : VT} {cs : CS} {X D Rp Rk K : Ob} {fs : FS} {m p o n0 : Nat} (c : WC E V0 m cs Rp Rk fs) (cw : CW E V0) (hp : p < vn V0) (ho9 : o < vn V0) (hn : n0 ≤ 100) : RT (f_X11_together_L23 (max m (n0 + 1)) (nI p) (nI o) (nI n0) X K FUEL (nI 0) (nI 1) cs D Rp Rk fs) (fun q => q.1 = nI (TG E V0 p o n0) ∧ WC E V0 (max m (n0 + 1)) q.2.1 q.2.2.2.1 q.2.2.2.2.1 q.2.2.2.2.2) := by
  refine RT.cps (fun Q hQ => ?_)
  have m1 : 1 ≤ m := by obtain ⟨⟨rd, c9⟩, _⟩ := c; exact c9.1.2.1
  refine RT.loop0 (fun n i (y : Int32 × CS × Ob × Ob × Ob × FS) => f_X11_together_L23 (max m (n0 + 1)) (nI p) (nI o) (nI n0) X K n y.1 (nI (i + 1)) y.2.1 y.2.2.1 y.2.2.2.1 y.2.2.2.2.1 y.2.2.2.2.2) n0 (fun i y => y.1 = nI (TG E V0 p o i) ∧ WC E V0 (max m (i + 1)) y.2.1 y.2.2.2.1 y.2.2.2.2.1 y.2.2.2.2.2) Q (nI 0, cs, D, Rp, Rk, fs) (by omega) ⟨rfl, by rw [show max m (0 + 1) = m by omega]; exact c⟩ ?_ ?_
  · intro n y ⟨y1, wc⟩
    show RT (f_X11_together_L23 (max m (n0 + 1)) (nI p) (nI o) (nI n0) X K (n + 1) y.1 (nI (n0 + 1)) y.2.1 y.2.2.1 y.2.2.2.1 y.2.2.2.2.1 y.2.2.2.2.2) _
    unfold f_X11_together_L23
    exact RT.itT (nI_lt (by omega) (by omega)) (RT.done hQ ⟨y1, wc⟩)
  · intro n i y hi ⟨y1, wc⟩ hk
    show RT (f_X11_together_L23 (max m (n0 + 1)) (nI p) (nI o) (nI n0) X K (n + 1) y.1 (nI (i + 1)) y.2.1 y.2.2.1 y.2.2.2.1 y.2.2.2.2.1 y.2.2.2.2.2) _
    obtain ⟨⟨rd, wc1⟩, wc2, wc3⟩ := wc
    have cnt : y.2.2.2.2.2.1 = max m (i + 1) := wc1.1.1
    obtain ⟨wi, ei, ni⟩ := cw.it (E := E) (i := i + 1) (by omega)
    unfold f_X11_together_L23
    refine RT.itF (nI_nlt (by omega) (by omega)) ?_
    rw [sx_clamp (by omega)]
    refine RT.bind (c_behind wc1 cw.1 cw.2.1 cw.2.2 wc2 wc3 (show i + 1 ≤ 200 by omega) (by rw [cnt])) (fun q ⟨q1, q2, q3, q4, q5, q6⟩ => ?_)
    have cnt2 : q.2.2.2.2.2.1 = max (max m (i + 1)) (i + 1 + 1) := q2.1.1
    refine RT.grd (decide_eq_true ⟨by omega, by rw [cnt2, cnt], by omega, by omega⟩) (RT.grd (decide_eq_true (by omega)) ?_)
    rw [q1, c_inOne q6 wi.1 (by omega) (by omega), ob_some]
    have wc' : WC E V0 (max m (i + 1 + 1)) q.2.1 q.2.2.2.1 q.2.2.2.2.1 q.2.2.2.2.2 := ⟨⟨max rd (i + 1), by rw [show max m (i + 1 + 1) = max (max m (i + 1)) (i + 1 + 1) by omega]; exact q2⟩, q3, q4⟩
    by_cases eq : ho (It E V0 (i + 1)) p = ho (It E V0 (i + 1)) o
    · rw [if_pos eq]
      refine RT.itF (by decide) ?_
      rw [bnd_nr, bnd_nr, y1, nI_1, nI_1]
      refine hk (_, _, _, _, _, _) ⟨?_, wc'⟩
      unfold TG
      rw [ct_yes (P := fun i => inB (It E V0 (i + 1)) p o) (decide_eq_true eq)]
      rfl
    · rw [if_neg eq]
      refine RT.itT rfl ?_
      rw [bnd_nr, nI_1]
      refine hk (_, _, _, _, _, _) ⟨?_, wc'⟩
      unfold TG
      rw [ct_no (P := fun i => inB (It E V0 (i + 1)) p o) (decide_eq_false eq)]
      exact y1
theorem m_together0 {M : MS} {E : RE} {V : VT} (v : VM M 86 V) (w : WFV V) (ec : EC E M) (k : EOK E) {p o n0 : Nat} (hp : p < vn V) (ho9 : o < vn V) (hn : n0 ≤ 100) (he : ve V + 101 ≤ 20000) : RT (f_X12_together_L43 (nI p) (nI o) (nI n0) FUEL (nI 0) (nI 0) M) (fun q => EVF M q.2 ∧ q.1 = nI (TG E V p o n0)) := by
  refine RT.cps (fun Q hQ => ?_)
  refine RT.loop0_2 (fun n i (l4 : Int32) (z : MS) => f_X12_together_L43 (nI p) (nI o) (nI n0) n l4 (nI i) z) n0 (fun i l4 z => l4 = nI (TG E V p o i) ∧ EVF M z ∧ VM z 86 (It E V i)) Q _ M (by omega) ⟨rfl, EVF.refl M, v⟩ ?_ ?_
  · intro n l4 z ⟨e, z1, z2⟩
    show RT (f_X12_together_L43 (nI p) (nI o) (nI n0) (n + 1) l4 (nI n0) z) _
    unfold f_X12_together_L43
    exact RT.itT (nI_le (Nat.le_refl _) (by omega)) (RT.done hQ ⟨z1, e⟩)
  · intro n i l4 z hi ⟨e, z1, z2⟩ hk
    show RT (f_X12_together_L43 (nI p) (nI o) (nI n0) (n + 1) l4 (nI i) z) _
    obtain ⟨wi, ei, ni⟩ := It_wf (E := E) w i (by omega)
    obtain ⟨wj, ej, nj⟩ := It_wf (E := E) w (i + 1) (by omega)
    unfold f_X12_together_L43
    refine RT.itF (nI_ge hi (by omega)) ?_
    refine RT.bind (m_ev86 z2 wi (ec.qf z1.qf) k (by omega)) (fun q ⟨q1, q2, q3⟩ => ?_)
    have q3 : VM q 86 (It E V (i + 1)) := q3
    rw [m_areIn q3 wj.1 (by omega) (by omega), ob_some]
    by_cases eq : ho (It E V (i + 1)) p = ho (It E V (i + 1)) o
    · rw [if_pos eq]
      refine RT.itF (by decide) ?_
      rw [bnd_nr, bnd_nr, e, nI_1, nI_1]
      refine hk _ _ ⟨?_, z1.trans q1, q3⟩
      unfold TG
      rw [ct_yes (P := fun i => inB (It E V (i + 1)) p o) (decide_eq_true eq)]
    · rw [if_neg eq]
      refine RT.itT rfl ?_
      rw [bnd_nr, bnd_nr, e, nI_1, li_0, nI_add]
      refine hk _ _ ⟨?_, z1.trans q1, q3⟩
      unfold TG
      rw [ct_no (P := fun i => inB (It E V (i + 1)) p o) (decide_eq_false eq)]
      rfl
