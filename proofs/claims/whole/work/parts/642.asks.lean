/-! what is asked of a village -/
theorem dd_nI {a b : Nat} (ha : a < 2147483648) (hb : b < 2147483648) : decide (nI a = nI b) = decide (a = b) := decide_eq_decide.mpr (nI_eq ha hb)
theorem VM.h {M : MS} {b : Nat} {V : VT} (h : VM M b V) : ∀ p, p < vn V → M.2.2 10 (b + 2 + p) = nI (ho V p) := fun p hp => (h.2.2.1 p hp).1
theorem VM.p {M : MS} {b : Nat} {V : VT} (h : VM M b V) : ∀ p, p < vn V → M.2.2 10 (b + 14 + p) = nI (pl V p) := fun p hp => (h.2.2.1 p hp).2.1
theorem VM.s {M : MS} {b : Nat} {V : VT} (h : VM M b V) : ∀ p, p < vn V → M.2.2 10 (b + 26 + p) = nI (si V p) := fun p hp => (h.2.2.1 p hp).2.2.1
theorem VM.m {M : MS} {b : Nat} {V : VT} (h : VM M b V) : ∀ p, p < vn V → M.2.2 10 (b + 38 + p) = mv V p := fun p hp => (h.2.2.1 p hp).2.2.2.1
theorem VM.r {M : MS} {b : Nat} {V : VT} (h : VM M b V) : ∀ p, p < vn V → M.2.2 10 (b + 50 + p) = nI (rk V p) := fun p hp => (h.2.2.1 p hp).2.2.2.2
theorem VM.o {M : MS} {b : Nat} {V : VT} (h : VM M b V) : ∀ k, k < vh V → M.2.2 10 (b + 62 + k) = nI (ol V k) := fun k hk => (h.2.2.2 k hk).1
theorem VM.i {M : MS} {b : Nat} {V : VT} (h : VM M b V) : ∀ k, k < vh V → M.2.2 10 (b + 74 + k) = idd V k := fun k hk => (h.2.2.2 k hk).2
theorem VM.e {M : MS} {b : Nat} {V : VT} (h : VM M b V) : M.2.2 10 b = nI (ve V) := h.2.1.1
theorem VM.n {M : MS} {b : Nat} {V : VT} (h : VM M b V) : M.2.2 10 (b + 1) = nI (vh V) := h.2.1.2
theorem VC.r {v : Ob} {V : VT} (h : VC v V) : ∀ p, p < vn V → v.2 1 p = nI (rk V p) := fun p hp => (h.2.1 p hp).1
theorem VC.h {v : Ob} {V : VT} (h : VC v V) : ∀ p, p < vn V → v.2 2 p = nI (ho V p) := fun p hp => (h.2.1 p hp).2.1
theorem VC.p {v : Ob} {V : VT} (h : VC v V) : ∀ p, p < vn V → v.2 3 p = nI (pl V p) := fun p hp => (h.2.1 p hp).2.2.1
theorem VC.c {v : Ob} {V : VT} (h : VC v V) : ∀ p, p < vn V → v.2 4 p = nI (ve V - si V p) := fun p hp => (h.2.1 p hp).2.2.2.1
theorem VC.m {v : Ob} {V : VT} (h : VC v V) : ∀ p, p < vn V → v.2 5 p = mv V p := fun p hp => (h.2.1 p hp).2.2.2.2
theorem VC.z {v : Ob} {V : VT} (h : VC v V) : ∀ k, k < vh V → v.2 6 k = nI (sz V k) := fun k hk => (h.2.2 k hk).1
theorem VC.f {v : Ob} {V : VT} (h : VC v V) : ∀ k, k < vh V → v.2 7 k = nI (ve V - ol V k) := fun k hk => (h.2.2 k hk).2
def dw (V : VT) (h : Nat) : Nat := msk (fun p => decide (ho V p = h)) (vn V)
def rs (V : VT) (h : Nat) : Nat := fb_sm (fun p => if ho V p = h then rk V p else 0) (vn V)
theorem isum_nI (f : Nat → Nat) : ∀ n, isum (fun p => nI (f p)) n = nI (fb_sm f n)
  | 0 => rfl
  | n + 1 => by rw [isum, isum_nI f n, nI_add, fb_sm_succ]
theorem rs_lt {V : VT} (w : WFP V) (h : Nat) : rs V h ≤ 108 := by
  have := fb_sm_bound (f := fun p => if ho V p = h then rk V p else 0) (c := 9) (n := vn V) (fun k hk => by
    show (if ho V k = h then rk V k else 0) ≤ 9
    have := (w.2.1 k hk).2.2.1
    split <;> omega)
  have := w.1.1
  unfold rs
  omega
theorem m_inHouse {M : MS} {b : Nat} {V : VT} (v : VM M b V) (w : WFP V) (hb : b ≤ 86) {h : Nat} (hh : h < 2147483648) : f_X12_inHouse M (nI b) (nI h) = some (nI (dw V h)) := by
  rw [g_inHouse v.1 w.1.1 hb]
  refine congrArg some (congrArg nI (msk_cong (fun p hp => ?_)))
  have := (w.2.1 p hp).1
  have := w.1.2.1
  rw [v.h p hp]
  exact dd_nI (by omega) hh
theorem m_sizeOf {M : MS} {b : Nat} {V : VT} (v : VM M b V) (w : WFP V) (hb : b ≤ 86) {h : Nat} (hh : h < 2147483648) : f_X12_sizeOf M (nI b) (nI h) = some (nI (sz V h)) := by
  rw [g_sizeOf v.1 w.1.1 hb]
  refine congrArg some (congrArg nI (fb_ct_cong (fun p hp => ?_)))
  have := (w.2.1 p hp).1
  have := w.1.2.1
  rw [v.h p hp]
  exact dd_nI (by omega) hh
theorem m_ranksOf {M : MS} {b : Nat} {V : VT} (v : VM M b V) (w : WFP V) (hb : b ≤ 86) {h : Nat} (hh : h < 2147483648) : f_X12_ranksOf M (nI b) (nI h) = some (nI (rs V h)) := by
  rw [g_ranksOf v.1 w.1.1 hb, rs, ← isum_nI]
  refine congrArg some (isum_cong (fun p hp => ?_))
  have := (w.2.1 p hp).1
  have := w.1.2.1
  rw [v.h p hp, v.r p hp]
  simp (disch := omega) only [sx_eq]
  split <;> rfl
/-- who lives at a place, or none -/
def WA_ (V : VT) (h x : Nat) (r : Int32) : Prop := (r = mO ∧ ∀ p, p < vn V → ¬ (ho V p = h ∧ pl V p = x)) ∨ ∃ p, p < vn V ∧ r = nI p ∧ ho V p = h ∧ pl V p = x
theorem WA_one {V : VT} (w : WFP V) {h x : Nat} {r s : Int32} (a : WA_ V h x r) (b : WA_ V h x s) : r = s := by
  rcases a with ⟨a1, a2⟩ | ⟨p, p1, p2, p3, p4⟩
  · rcases b with ⟨b1, b2⟩ | ⟨q, q1, q2, q3, q4⟩
    · rw [a1, b1]
    · exact absurd ⟨q3, q4⟩ (a2 q q1)
  · rcases b with ⟨b1, b2⟩ | ⟨q, q1, q2, q3, q4⟩
    · exact absurd ⟨p3, p4⟩ (b2 p p1)
    · rw [p2, q2, w.2.2.1 p q p1 q1 (by rw [p3, q3]) (by rw [p4, q4])]
theorem m_whoAt0 {M : MS} {b : Nat} {V : VT} (v : VM M b V) (w : WFP V) (hb : b ≤ 86) {h x : Nat} (hh : h < 2147483648) (hx : x < 2147483648) : RT (f_X12_whoAt M (nI b) (nI h) (nI x)) (WA_ V h x) := by
  have iff : ∀ p, p < vn V → ((M.2.2 10 (b + 2 + p) = nI h ∧ M.2.2 10 (b + 14 + p) = nI x) ↔ (ho V p = h ∧ pl V p = x)) := by
    intro p hp
    have := w.2.1 p hp
    have := w.1
    have := sz_le V (ho V p)
    rw [v.h p hp, v.p p hp, nI_eq (by omega) hh, nI_eq (by omega) hx]
  refine (g_whoAt v.1 w.1.1 hb (nI h) (nI x)).weak (fun r hr => ?_)
  rcases hr with ⟨h1, h2⟩ | ⟨p, p1, p2, p3, p4, _⟩
  · exact Or.inl ⟨h1, fun p hp c => h2 p hp ((iff p hp).mpr c)⟩
  · have := (iff p p1).mp ⟨p3, p4⟩
    exact Or.inr ⟨p, p1, p2, this.1, this.2⟩
theorem m_whoAt {M : MS} {b : Nat} {V : VT} (v : VM M b V) (w : WFP V) (hb : b ≤ 86) {h x p : Nat} (hp : p < vn V) (e1 : ho V p = h) (e2 : pl V p = x) : f_X12_whoAt M (nI b) (nI h) (nI x) = some (nI p) := by
  have := w.2.1 p hp
  have := w.1
  have := sz_le V (ho V p)
  obtain ⟨r, h1, h2⟩ := m_whoAt0 v w hb (h := h) (x := x) (by omega) (by omega)
  rw [h1, WA_one w h2 (Or.inr ⟨p, hp, rfl, e1, e2⟩)]
theorem c_dwellers {v : Ob} {V : VT} (c : VC v V) (w : WFP V) {h : Nat} (hh : h < 2147483648) : f_X10_dwellers v (nI h) = some (nI (dw V h)) := by
  rw [c_dwell c.1.1 w.1.1]
  refine congrArg some (congrArg nI (msk_cong (fun p hp => ?_)))
  have := (w.2.1 p hp).1
  have := w.1.2.1
  rw [c.h p hp]
  exact dd_nI (by omega) hh
theorem c_ranksIn {v : Ob} {V : VT} (c : VC v V) (w : WFP V) {h : Nat} (hh : h < 2147483648) : f_X10_ranksIn v (nI h) = some (nI (rs V h)) := by
  rw [c_ranksIn0 c.1.1 w.1.1, rs, ← isum_nI]
  refine congrArg some (isum_cong (fun p hp => ?_))
  have := (w.2.1 p hp).1
  have := w.1.2.1
  rw [c.h p hp, c.r p hp]
  simp (disch := omega) only [sx_eq]
  split <;> rfl
theorem c_at {v : Ob} {V : VT} (c : VC v V) (w : WFP V) {h x : Nat} (hh : h < 2147483648) (hx : x < 2147483648) : RT (f_X10_at v (nI h) (nI x)) (WA_ V h x) := by
  have iff : ∀ p, p < vn V → ((v.2 2 p = nI h ∧ v.2 3 p = nI x) ↔ (ho V p = h ∧ pl V p = x)) := by
    intro p hp
    have := w.2.1 p hp
    have := w.1
    have := sz_le V (ho V p)
    rw [c.h p hp, c.p p hp, nI_eq (by omega) hh, nI_eq (by omega) hx]
  refine (c_at0 c.1.1 w.1.1 (nI h) (nI x)).weak (fun r hr => ?_)
  rcases hr with ⟨h1, h2⟩ | ⟨p, p1, p2, p3, p4, _⟩
  · exact Or.inl ⟨h1, fun p hp c => h2 p hp ((iff p hp).mpr c)⟩
  · have := (iff p p1).mp ⟨p3, p4⟩
    exact Or.inr ⟨p, p1, p2, this.1, this.2⟩
theorem c_since {v : Ob} {V : VT} (c : VC v V) (w : WFP V) {p : Nat} (hp : p < vn V) : f_X10_since v (nI p) = some (nI (si V p)) := by
  have := w.2.1 p hp
  have := w.1
  unfold f_X10_since
  simp (disch := omega) only [bnd_nr, li_0, li_1, li_2, li_3, li_4, li_5, li_6, li_7, li_8, li_9, li_10, li_11, li_12, li_13, li_14, li_15, li_16, li_17, li_18, li_19, li_20, li_21, li_22, li_23, li_24, li_25, li_26, li_27, li_28, li_29, li_30, li_31, li_32, li_33, li_34, li_35, li_36, li_37, li_38, li_39, li_40, li_41, li_42, li_43, li_44, li_45, li_46, li_47, li_48, li_49, li_50, li_51, li_52, li_53, li_54, li_55, li_56, li_57, li_58, li_59, li_60, li_61, li_62, li_63, li_64, li_74, li_86, li_87, li_88, li_96, li_97, li_98, li_99, li_100, li_101, li_102, li_103, li_104, li_105, li_107, li_108, li_109, li_110, li_111, li_112, li_114, li_115, li_116, li_117, li_118, li_121, li_122, li_124, li_136, li_148, li_160, li_680, li_200, li_201, li_255, li_700, li_950, li_1000, li_1400, li_3440, li_4096, li_9999, li_10000, li_20000, li_20033, li_20038, li_20124, li_32767, li_65535, li_1103515245, li_12345, li_m, sx_grd, sx_clamp, nI_add, sx_sub, pk_mul, sx_le, sx_lt, sx_eq, sx_eqm, sx_meq, sx_lem, sx_mle, sx_ltm, sx_mlt, sx_addm, sx_shl, sx_bit1, sx_bit0, fa_or, uA_s, uA_n, sA_s, sA_n, sx_uA, sx_uAn, sx_sAs, pk_us, pk_un, if_true, if_false, if_pos, if_neg, ob_some, Nat.add_zero, Nat.add_sub_cancel, eq_self, ne_eq, not_true, not_false_iff, false_or, true_or, or_false, or_true, false_and, true_and, and_false, and_true, c.c p hp, c.1.2.2]
  congr 2; omega
theorem c_old {v : Ob} {V : VT} (c : VC v V) (w : WFP V) {h : Nat} (hh : h < vh V) : f_X10_old v (nI h) = some (nI (ol V h)) := by
  have := w.2.2.2 h hh
  have := w.1
  unfold f_X10_old
  simp (disch := omega) only [bnd_nr, li_0, li_1, li_2, li_3, li_4, li_5, li_6, li_7, li_8, li_9, li_10, li_11, li_12, li_13, li_14, li_15, li_16, li_17, li_18, li_19, li_20, li_21, li_22, li_23, li_24, li_25, li_26, li_27, li_28, li_29, li_30, li_31, li_32, li_33, li_34, li_35, li_36, li_37, li_38, li_39, li_40, li_41, li_42, li_43, li_44, li_45, li_46, li_47, li_48, li_49, li_50, li_51, li_52, li_53, li_54, li_55, li_56, li_57, li_58, li_59, li_60, li_61, li_62, li_63, li_64, li_74, li_86, li_87, li_88, li_96, li_97, li_98, li_99, li_100, li_101, li_102, li_103, li_104, li_105, li_107, li_108, li_109, li_110, li_111, li_112, li_114, li_115, li_116, li_117, li_118, li_121, li_122, li_124, li_136, li_148, li_160, li_680, li_200, li_201, li_255, li_700, li_950, li_1000, li_1400, li_3440, li_4096, li_9999, li_10000, li_20000, li_20033, li_20038, li_20124, li_32767, li_65535, li_1103515245, li_12345, li_m, sx_grd, sx_clamp, nI_add, sx_sub, pk_mul, sx_le, sx_lt, sx_eq, sx_eqm, sx_meq, sx_lem, sx_mle, sx_ltm, sx_mlt, sx_addm, sx_shl, sx_bit1, sx_bit0, fa_or, uA_s, uA_n, sA_s, sA_n, sx_uA, sx_uAn, sx_sAs, pk_us, pk_un, if_true, if_false, if_pos, if_neg, ob_some, Nat.add_zero, Nat.add_sub_cancel, eq_self, ne_eq, not_true, not_false_iff, false_or, true_or, or_false, or_true, false_and, true_and, and_false, and_true, c.f h hh, c.1.2.2]
  congr 2; omega
theorem j_fill {f : Nat → Int32} {N : Nat} (x : Int32) (hN : N < 100000) : f_J7_fill_53178 f N x = some (fa_fill (fun _ => x) f N) := by
  refine RT.eq ?_
  refine RT.cps (fun Q hQ => ?_)
  unfold f_J7_fill_53178
  simp only [bnd, li_0]
  rw [show Int32.ofNat N = nI N from rfl]
  refine RT.loop0 (fun k i z => f_J7_fill_53178_L5 N x (nI N) k (nI i) z) N (fun i z => z = fa_fill (fun _ => x) f i) _ _ hN ?_ ?_ ?_
  · rw [fa_fill_0]
  · intro k z hz; subst hz
    show RT (f_J7_fill_53178_L5 N x (nI N) (k + 1) (nI N) _) _
    unfold f_J7_fill_53178_L5
    simp (disch := omega) only [bnd_nr, li_0, li_1, li_2, li_3, li_4, li_5, li_6, li_7, li_8, li_9, li_10, li_11, li_12, li_13, li_14, li_15, li_16, li_17, li_18, li_19, li_20, li_21, li_22, li_23, li_24, li_25, li_26, li_27, li_28, li_29, li_30, li_31, li_32, li_33, li_34, li_35, li_36, li_37, li_38, li_39, li_40, li_41, li_42, li_43, li_44, li_45, li_46, li_47, li_48, li_49, li_50, li_51, li_52, li_53, li_54, li_55, li_56, li_57, li_58, li_59, li_60, li_61, li_62, li_63, li_64, li_74, li_86, li_87, li_88, li_96, li_97, li_98, li_99, li_100, li_101, li_102, li_103, li_104, li_105, li_107, li_108, li_109, li_110, li_111, li_112, li_114, li_115, li_116, li_117, li_118, li_121, li_122, li_124, li_136, li_148, li_160, li_680, li_200, li_201, li_255, li_700, li_950, li_1000, li_1400, li_3440, li_4096, li_9999, li_10000, li_20000, li_20033, li_20038, li_20124, li_32767, li_65535, li_1103515245, li_12345, li_m, sx_grd, sx_clamp, nI_add, sx_sub, pk_mul, sx_le, sx_lt, sx_eq, sx_eqm, sx_meq, sx_lem, sx_mle, sx_ltm, sx_mlt, sx_addm, sx_shl, sx_bit1, sx_bit0, fa_or, uA_s, uA_n, sA_s, sA_n, sx_uA, sx_uAn, sx_sAs, pk_us, pk_un, if_true, if_false, if_pos, if_neg, ob_some, Nat.add_zero, Nat.add_sub_cancel, eq_self, ne_eq, not_true, not_false_iff, false_or, true_or, or_false, or_true, false_and, true_and, and_false, and_true]
    exact RT.done hQ rfl
  · intro k i z hi hz hk; subst hz
    show RT (f_J7_fill_53178_L5 N x (nI N) (k + 1) (nI i) _) _
    unfold f_J7_fill_53178_L5
    simp (disch := omega) only [bnd_nr, li_0, li_1, li_2, li_3, li_4, li_5, li_6, li_7, li_8, li_9, li_10, li_11, li_12, li_13, li_14, li_15, li_16, li_17, li_18, li_19, li_20, li_21, li_22, li_23, li_24, li_25, li_26, li_27, li_28, li_29, li_30, li_31, li_32, li_33, li_34, li_35, li_36, li_37, li_38, li_39, li_40, li_41, li_42, li_43, li_44, li_45, li_46, li_47, li_48, li_49, li_50, li_51, li_52, li_53, li_54, li_55, li_56, li_57, li_58, li_59, li_60, li_61, li_62, li_63, li_64, li_74, li_86, li_87, li_88, li_96, li_97, li_98, li_99, li_100, li_101, li_102, li_103, li_104, li_105, li_107, li_108, li_109, li_110, li_111, li_112, li_114, li_115, li_116, li_117, li_118, li_121, li_122, li_124, li_136, li_148, li_160, li_680, li_200, li_201, li_255, li_700, li_950, li_1000, li_1400, li_3440, li_4096, li_9999, li_10000, li_20000, li_20033, li_20038, li_20124, li_32767, li_65535, li_1103515245, li_12345, li_m, sx_grd, sx_clamp, nI_add, sx_sub, pk_mul, sx_le, sx_lt, sx_eq, sx_eqm, sx_meq, sx_lem, sx_mle, sx_ltm, sx_mlt, sx_addm, sx_shl, sx_bit1, sx_bit0, fa_or, uA_s, uA_n, sA_s, sA_n, sx_uA, sx_uAn, sx_sAs, pk_us, pk_un, if_true, if_false, if_pos, if_neg, ob_some, Nat.add_zero, Nat.add_sub_cancel, eq_self, ne_eq, not_true, not_false_iff, false_or, true_or, or_false, or_true, false_and, true_and, and_false, and_true]
    exact hk _ (by rw [fill_up rfl])
