/-! storms -/
def stV (V : VT) : VT := evV (fun _ => false) V
theorem GOK_no {V : VT} : GOK (fun _ => false) V := fun _ _ _ _ h => by cases h
theorem gg_no {V : VT} {h : Nat} : gg (fun _ => false) V h = 0 := fb_ct_zero.mpr (fun p _ => by rw [Bool.and_false])
theorem any_no {V : VT} : anyG (fun _ => false) V = 0 := by
  unfold anyG
  rw [show fb_ct (fun _ => false) (vn V) = 0 from fb_ct_zero.mpr (fun p _ => rfl), if_neg (by omega)]
theorem upS_no {V : VT} {p : Nat} : up (fun _ => false) V p = false := by
  unfold up
  rw [show fb_ct (fun q => decide (ho V q = ho V p) && (false && decide (pl V q < pl V p))) (vn V) = 0 from fb_ct_zero.mpr (fun q _ => by rw [Bool.false_and, Bool.and_false])]
  rfl
theorem vh_gono {V : VT} : vh (goV (fun _ => false) V) = vh V := by
  show vh V + anyG _ V = _
  rw [any_no, Nat.add_zero]
theorem WFV_gono {V : VT} (w : WFV V) (he : ve V < 20000) : WFV (goV (fun _ => false) V) := by
  refine ⟨WFP_go w GOK_no he, fun h hh => ?_⟩
  rw [vh_gono] at hh
  have a := sz_go (G := fun _ => false) hh
  rw [gg_no] at a
  have := w.2 h hh
  omega
theorem c_storm {v : Ob} {V : VT} (c : VC v V) (w : WFV V) (he : ve V < 20000) : VC (upd v.1 2 (v.1 2 + nI 1), v.2) (stV V) := by
  refine VC.congr (V := goV (fun _ => false) V) ?_ (drop_full (WFV_gono w he)).symm
  refine ⟨⟨?_, ?_, ?_⟩, fun p hp => ⟨c.r p hp, c.h p hp, ?_, ?_, c.m p hp⟩, fun h hh => ⟨?_, ?_⟩⟩
  · show upd v.1 2 (v.1 2 + nI 1) 0 = _
    rw [pk_un (by omega)]; exact c.1.1
  · show upd v.1 2 (v.1 2 + nI 1) 1 = _
    rw [pk_un (by omega), vh_gono]; exact c.1.2.1
  · show upd v.1 2 (v.1 2 + nI 1) 2 = nI (ve V + 1)
    rw [pk_us, c.1.2.2, nI_add]
  · change p < vn V at hp
    have e : pl (goV (fun _ => false) V) p = pl V p := by
      show (if up (fun _ => false) V p then pl V p - 1 else pl V p) = _
      rw [upS_no]; rfl
    rw [e]; exact c.p p hp
  · change p < vn V at hp
    show v.2 4 p = nI (ve V + 1 - (si V p + 1))
    rw [Nat.add_sub_add_right]; exact c.c p hp
  · rw [vh_gono] at hh
    have a := sz_go (G := fun _ => false) hh
    rw [gg_no, Nat.add_zero] at a
    rw [a]; exact c.z h hh
  · rw [vh_gono] at hh
    show v.2 7 h = nI (ve V + 1 - (if h < vh V then ol V h + 1 else 0))
    rw [if_pos hh, Nat.add_sub_add_right]; exact c.f h hh
def sN (E : RE) (U : VT) (t m : Nat) : Nat → Nat × VT | 0 => (1, U) | i + 1 => if m.testBit i then ((sN E U t m i).1 * t, stV (sN E U t m i).2) else ((sN E U t m i).1 * (10 - t), eN E (sN E U t m i).2)
theorem sN_wf {E : RE} {U : VT} {t m : Nat} (cw : CW E U) (ht : t ≤ 10) : ∀ i, i ≤ 10 → WFV (sN E U t m i).2 ∧ ve (sN E U t m i).2 = ve U + i ∧ vn (sN E U t m i).2 = vn U ∧ (sN E U t m i).1 ≤ 10 ^ i
  | 0, _ => ⟨cw.1, rfl, rfl, Nat.le_refl _⟩
  | i + 1, h => by
    obtain ⟨a, b, c, d⟩ := sN_wf (m := m) cw ht i (by omega)
    have e9 := cw.2.1
    rw [sN, Nat.pow_succ]
    split
    · refine ⟨WFV_ev a GOK_no (by omega), ?_, c, Nat.mul_le_mul d ht⟩
      show ve (sN E U t m i).2 + 1 = _
      omega
    · refine ⟨WFV_ev a (GOK_go a.1) (by omega), ?_, c, Nat.mul_le_mul d (by omega)⟩
      show ve (sN E U t m i).2 + 1 = _
      omega
theorem sN_zero {E : RE} {U : VT} {t m i : Nat} (h : (sN E U t m i).1 = 0) : ∀ j, (sN E U t m (i + j)).1 = 0
  | 0 => h
  | j + 1 => by
    rw [show i + (j + 1) = (i + j) + 1 from rfl, sN]
    split
    · show (sN E U t m (i + j)).1 * t = 0
      rw [sN_zero h j, Nat.zero_mul]
    · show (sN E U t m (i + j)).1 * (10 - t) = 0
      rw [sN_zero h j, Nat.zero_mul]
def sT (E : RE) (U : VT) (t n p o m : Nat) : Nat := if ho (sN E U t m n).2 p = ho (sN E U t m n).2 o then (sN E U t m n).1 else 0
theorem pw10 : ∀ i, i ≤ 5 → 10 ^ i ≤ 100000 := by decide
theorem pw2 : ∀ n, n ≤ 5 → 2 ^ n ≤ 32 := by decide
theorem c_byStorms {E : RE} {U : VT} {v D Rp Rk T K N0 : Ob} {p o n t : Nat} (c : VC N0 U) (cw : CW E U) (h1 : RCo Rp E.1) (h2 : RCo Rk E.2) (hp : p < vn U) (ho9 : o < vn U) (hn : n ≤ 5) (ht : t ≤ 10) : RT (f_X9_byStorms v D Rp Rk T K N0 (nI p) (nI o) (nI n) (nI t)) (fun q => q.1 = nI (fb_sm (sT E U t n p o) (2 ^ n)) ∧ RCo q.2.2.1 E.1 ∧ RCo q.2.2.2.1 E.2) := by
  refine RT.cps (fun Q hQ => ?_)
  have b0 := cw.1.1.1
  have p2 := pw2 n hn
  unfold f_X9_byStorms
  refine RT.loop0 (fun k m (y : Int32 × Ob × Ob × Ob × Ob) => f_X9_byStorms_L6 (nI p) (nI o) (nI n) (nI t) v K N0 k y.1 (nI m) y.2.1 y.2.2.1 y.2.2.2.1 y.2.2.2.2) (2 ^ n) (fun m y => y.1 = nI (fb_sm (sT E U t n p o) m) ∧ RCo y.2.2.1 E.1 ∧ RCo y.2.2.2.1 E.2) Q (_, D, Rp, Rk, T) (by omega) ⟨rfl, h1, h2⟩ ?_ ?_
  · intro k ⟨ya, yD, yP, yK, yT⟩ ⟨y1, y2, y3⟩
    show RT (f_X9_byStorms_L6 (nI p) (nI o) (nI n) (nI t) v K N0 (k + 1) ya (nI (2 ^ n)) yD yP yK yT) _
    unfold f_X9_byStorms_L6
    simp (disch := omega) only [bnd_nr, li_0, li_1, li_2, li_3, li_4, li_5, li_6, li_7, li_8, li_9, li_10, li_11, li_12, li_13, li_14, li_15, li_16, li_17, li_18, li_19, li_20, li_21, li_22, li_23, li_24, li_25, li_26, li_27, li_28, li_29, li_30, li_31, li_32, li_33, li_34, li_35, li_36, li_37, li_38, li_39, li_40, li_41, li_42, li_43, li_44, li_45, li_46, li_47, li_48, li_49, li_50, li_51, li_52, li_53, li_54, li_55, li_56, li_57, li_58, li_59, li_60, li_61, li_62, li_63, li_64, li_74, li_86, li_87, li_88, li_96, li_97, li_98, li_99, li_100, li_101, li_102, li_103, li_104, li_105, li_107, li_108, li_109, li_110, li_111, li_112, li_114, li_115, li_116, li_117, li_118, li_121, li_122, li_124, li_136, li_148, li_160, li_680, li_200, li_201, li_255, li_700, li_950, li_1000, li_1400, li_3440, li_4096, li_9999, li_10000, li_20000, li_20033, li_20038, li_20124, li_32767, li_65535, li_1103515245, li_12345, li_m, sx_grd, sx_clamp, nI_add, sx_sub, pk_mul, sx_le, sx_lt, sx_eq, sx_eqm, sx_meq, sx_lem, sx_mle, sx_ltm, sx_mlt, sx_addm, sx_shl, sx_bit1, sx_bit0, fa_or, uA_s, uA_n, sA_s, sA_n, sx_uA, sx_uAn, sx_sAs, pk_us, pk_un, if_true, if_false, if_pos, if_neg, ob_some, Nat.add_zero, Nat.add_sub_cancel, eq_self, ne_eq, not_true, not_false_iff, false_or, true_or, or_false, or_true, false_and, true_and, and_false, and_true]
    exact RT.done hQ ⟨y1, y2, y3⟩
  · intro k m ⟨ya, yD, yP, yK, yT⟩ hm ⟨y1, y2, y3⟩ hk
    show RT (f_X9_byStorms_L6 (nI p) (nI o) (nI n) (nI t) v K N0 (k + 1) ya (nI m) yD yP yK yT) _
    dsimp only at y1
    subst y1
    unfold f_X9_byStorms_L6
    refine RT.itF (by
      simp (disch := omega) only [bnd_nr, li_0, li_1, li_2, li_3, li_4, li_5, li_6, li_7, li_8, li_9, li_10, li_11, li_12, li_13, li_14, li_15, li_16, li_17, li_18, li_19, li_20, li_21, li_22, li_23, li_24, li_25, li_26, li_27, li_28, li_29, li_30, li_31, li_32, li_33, li_34, li_35, li_36, li_37, li_38, li_39, li_40, li_41, li_42, li_43, li_44, li_45, li_46, li_47, li_48, li_49, li_50, li_51, li_52, li_53, li_54, li_55, li_56, li_57, li_58, li_59, li_60, li_61, li_62, li_63, li_64, li_74, li_86, li_87, li_88, li_96, li_97, li_98, li_99, li_100, li_101, li_102, li_103, li_104, li_105, li_107, li_108, li_109, li_110, li_111, li_112, li_114, li_115, li_116, li_117, li_118, li_121, li_122, li_124, li_136, li_148, li_160, li_680, li_200, li_201, li_255, li_700, li_950, li_1000, li_1400, li_3440, li_4096, li_9999, li_10000, li_20000, li_20033, li_20038, li_20124, li_32767, li_65535, li_1103515245, li_12345, li_m, sx_grd, sx_clamp, nI_add, sx_sub, pk_mul, sx_le, sx_lt, sx_eq, sx_eqm, sx_meq, sx_lem, sx_mle, sx_ltm, sx_mlt, sx_addm, sx_shl, sx_bit1, sx_bit0, fa_or, uA_s, uA_n, sA_s, sA_n, sx_uA, sx_uAn, sx_sAs, pk_us, pk_un, if_true, if_false, if_pos, if_neg, ob_some, Nat.add_zero, Nat.add_sub_cancel, eq_self, ne_eq, not_true, not_false_iff, false_or, true_or, or_false, or_true, false_and, true_and, and_false, and_true]
      omega) ?_
    refine RT.bind (c_copyFrom c cw.1.1) (fun q hq => ?_)
    have fin : ∀ (i : Nat) (D9 P9 K9 T9 : Ob), i ≤ n → ((sN E U t m i).1 = 0 ∨ i = n) → RCo P9 E.1 → RCo K9 E.2 → VC T9 (sN E U t m i).2 → RT (f_X9_byStorms_J103 (f_X9_byStorms_L6 (nI p) (nI o) (nI n) (nI t) v K N0 k) (nI p) (nI o) (nI n) (nI t) v K N0 (nI (fb_sm (sT E U t n p o) m)) (nI m) (nI (sN E U t m i).1) D9 P9 K9 T9) Q := by
      intro i D9 P9 K9 T9 hi hz r1 r2 r3
      obtain ⟨wi, ei, ni, li⟩ := sN_wf (m := m) cw ht i (by omega)
      unfold f_X9_byStorms_J103
      rw [c_inOne r3 wi.1 (by omega) (by omega), ob_some, bnd_nr, bnd_nr, bnd_nr, nI_1]
      have zz : (sN E U t m i).1 = 0 → sT E U t n p o m = 0 := fun z => by
        have := sN_zero z (n - i)
        rw [show i + (n - i) = n by omega] at this
        unfold sT
        rw [this]; split <;> rfl
      by_cases e : ho (sN E U t m i).2 p = ho (sN E U t m i).2 o
      · rw [if_pos e]
        refine RT.itF (by decide) ?_
        rw [nI_add]
        refine hk (nI (fb_sm (sT E U t n p o) m + (sN E U t m i).1), _, _, _, _) ⟨?_, r1, r2⟩
        show nI _ = nI (fb_sm (sT E U t n p o) (m + 1))
        rw [fb_sm_succ]
        congr 2
        rcases hz with z | z
        · rw [zz z, z]
        · subst z; unfold sT; rw [if_pos e]
      · rw [if_neg e]
        refine RT.itT rfl (hk (nI (fb_sm (sT E U t n p o) m), _, _, _, _) ⟨?_, r1, r2⟩)
        show nI _ = nI (fb_sm (sT E U t n p o) (m + 1))
        rw [fb_sm_succ]
        have : sT E U t n p o m = 0 := by
          rcases hz with z | z
          · exact zz z
          · subst z; unfold sT; rw [if_neg e]
        rw [this, Nat.add_zero]
    refine RT.loop0 (fun j i (y : Int32 × Ob × Ob × Ob × Ob) => f_X9_byStorms_L29 (f_X9_byStorms_L6 (nI p) (nI o) (nI n) (nI t) v K N0 k) (nI p) (nI o) (nI n) (nI t) (nI (fb_sm (sT E U t n p o) m)) (nI m) v K N0 j y.1 (nI i) y.2.1 y.2.2.1 y.2.2.2.1 y.2.2.2.2) n (fun i y => y.1 = nI (sN E U t m i).1 ∧ RCo y.2.2.1 E.1 ∧ RCo y.2.2.2.1 E.2 ∧ VC y.2.2.2.2 (sN E U t m i).2) Q (_, yD, yP, yK, q) (by omega) ⟨rfl, y2, y3, hq⟩ ?_ ?_
    · intro j ⟨xa, xD, xP, xK, xT⟩ ⟨x1, x2, x3, x4⟩
      show RT (f_X9_byStorms_L29 (f_X9_byStorms_L6 (nI p) (nI o) (nI n) (nI t) v K N0 k) (nI p) (nI o) (nI n) (nI t) (nI (fb_sm (sT E U t n p o) m)) (nI m) v K N0 (j + 1) xa (nI n) xD xP xK xT) _
      dsimp only at x1
      subst x1
      unfold f_X9_byStorms_L29
      exact RT.itT (nI_le (Nat.le_refl _) (by omega)) (fin n _ _ _ _ (Nat.le_refl _) (Or.inr rfl) x2 x3 x4)
    · intro j i ⟨xa, xD, xP, xK, xT⟩ hi ⟨x1, x2, x3, x4⟩ hk2
      show RT (f_X9_byStorms_L29 (f_X9_byStorms_L6 (nI p) (nI o) (nI n) (nI t) v K N0 k) (nI p) (nI o) (nI n) (nI t) (nI (fb_sm (sT E U t n p o) m)) (nI m) v K N0 (j + 1) xa (nI i) xD xP xK xT) _
      dsimp only at x1 x2 x3 x4
      subst x1
      obtain ⟨wi, ei, ni, li⟩ := sN_wf (m := m) cw ht i (by omega)
      have l5 := pw10 i (by omega)
      have e9 := cw.2.1
      have st : sN E U t m (i + 1) = if m.testBit i then ((sN E U t m i).1 * t, stV (sN E U t m i).2) else ((sN E U t m i).1 * (10 - t), eN E (sN E U t m i).2) := rfl
      unfold f_X9_byStorms_L29
      refine RT.itF (nI_ge hi (by omega)) (RT.ite (fun z => ?_) (fun z => ?_))
      · have z0 : (sN E U t m i).1 = 0 := by
          have := (nI_leI (b := 0) (by omega) (by omega)).mp z
          omega
        exact fin i _ _ _ _ (by omega) (Or.inl z0) x2 x3 x4
      · refine RT.ite (fun y => ?_) (fun y => ?_)
        · have y0 : m.testBit i = false := (sr1_0 (by omega) (by omega)).mp y
          rw [y0, if_neg (by decide)] at st
          rw [bnd_nr]
          refine RT.bind (c_pass0 x4 wi cw.2.2 x2 x3 (by omega)) (fun q ⟨_, q2, q3, q4⟩ => ?_)
          rw [bnd_nr, nI_1]
          refine hk2 (nI (sN E U t m i).1 * (nI 10 - nI t), _, _, _, _) ⟨?_, q2, q3, ?_⟩
          · show nI (sN E U t m i).1 * (nI 10 - nI t) = _
            rw [sx_sub ht, pk_mul, st]
          · rw [st]; exact q4
        · have y0 : m.testBit i = true := by
            cases q : m.testBit i
            · exact absurd ((sr1_0 (by omega) (by omega)).mpr q) y
            · rfl
          rw [y0, if_pos rfl] at st
          rw [bnd_nr, bnd_nr, bnd_nr, nI_1]
          refine hk2 (nI (sN E U t m i).1 * nI t, _, _, _, _) ⟨?_, x2, x3, ?_⟩
          · show nI (sN E U t m i).1 * nI t = _
            rw [pk_mul, st]
          · rw [st]; exact c_storm x4 wi (by omega)
def Z39 (z : MS) : MS := (upd z.1 39 (nI 0), z.2)
theorem Z39_upd {z : MS} {x : Int32} : Z39 (upd z.1 39 x, z.2) = Z39 z := by
  unfold Z39
  rw [show upd (upd z.1 39 x) 39 (nI 0) = upd z.1 39 (nI 0) from funext (fun k => by
    by_cases e : k = 39
    · subst e; rw [pk_us, pk_us]
    · rw [pk_un e, pk_un e, pk_un e])]
theorem Z39_self {z : MS} (h : z.1 39 = nI 0) : Z39 z = z := by
  unfold Z39
  rw [show upd z.1 39 (nI 0) = z.1 from funext (fun k => by
    by_cases e : k = 39
    · subst e; rw [pk_us, h]
    · rw [pk_un e])]
theorem Z39_vm {z : MS} {b : Nat} {V : VT} : VM (Z39 z) b V ↔ VM z b V := by
  unfold Z39 VM
  show (upd z.1 39 (nI 0) 1 = nI (vn V) ∧ _) ↔ _
  rw [pk_un (show 1 ≠ 39 by omega)]
theorem m_storms0 {M : MS} {E : RE} {V : VT} {p o n t : Nat} (vm : VM M 0 V) (cw : CW E V) (ec : EC E M) (hp : p < vn V) (ho9 : o < vn V) (hn : n ≤ 5) (ht : t ≤ 10) : RT (f_X12_storms_L62 (nI p) (nI o) (nI n) (nI t) FUEL (nI 0) (nI 0) M) (fun q => q.1 = nI (fb_sm (sT E (idV V nI) t n p o) (2 ^ n)) ∧ QF M q.2) := by
  refine RT.cps (fun Q hQ => ?_)
  have b0 := cw.1.1.1
  have p2 := pw2 n hn
  have cwi : CW E (idV V nI) := ⟨cw.1.idv nI, cw.2.1, cw.2.2⟩
  refine RT.loop0 (fun k m (y : Int32 × MS) => f_X12_storms_L62 (nI p) (nI o) (nI n) (nI t) k y.1 (nI m) y.2) (2 ^ n) (fun m y => y.1 = nI (fb_sm (sT E (idV V nI) t n p o) m) ∧ QF M (Z39 y.2)) Q (_, M) (by omega) ⟨rfl, by rw [Z39_self ec.2.2.1]; exact QF.refl M⟩ ?_ ?_
  · intro k ⟨ya, z⟩ ⟨y1, y2⟩
    show RT (f_X12_storms_L62 (nI p) (nI o) (nI n) (nI t) (k + 1) ya (nI (2 ^ n)) z) _
    unfold f_X12_storms_L62
    refine RT.itT (by
      simp (disch := omega) only [bnd_nr, li_0, li_1, li_2, li_3, li_4, li_5, li_6, li_7, li_8, li_9, li_10, li_11, li_12, li_13, li_14, li_15, li_16, li_17, li_18, li_19, li_20, li_21, li_22, li_23, li_24, li_25, li_26, li_27, li_28, li_29, li_30, li_31, li_32, li_33, li_34, li_35, li_36, li_37, li_38, li_39, li_40, li_41, li_42, li_43, li_44, li_45, li_46, li_47, li_48, li_49, li_50, li_51, li_52, li_53, li_54, li_55, li_56, li_57, li_58, li_59, li_60, li_61, li_62, li_63, li_64, li_74, li_86, li_87, li_88, li_96, li_97, li_98, li_99, li_100, li_101, li_102, li_103, li_104, li_105, li_107, li_108, li_109, li_110, li_111, li_112, li_114, li_115, li_116, li_117, li_118, li_121, li_122, li_124, li_136, li_148, li_160, li_680, li_200, li_201, li_255, li_700, li_950, li_1000, li_1400, li_3440, li_4096, li_9999, li_10000, li_20000, li_20033, li_20038, li_20124, li_32767, li_65535, li_1103515245, li_12345, li_m, sx_grd, sx_clamp, nI_add, sx_sub, pk_mul, sx_le, sx_lt, sx_eq, sx_eqm, sx_meq, sx_lem, sx_mle, sx_ltm, sx_mlt, sx_addm, sx_shl, sx_bit1, sx_bit0, fa_or, uA_s, uA_n, sA_s, sA_n, sx_uA, sx_uAn, sx_sAs, pk_us, pk_un, if_true, if_false, if_pos, if_neg, ob_some, Nat.add_zero, Nat.add_sub_cancel, eq_self, ne_eq, not_true, not_false_iff, false_or, true_or, or_false, or_true, false_and, true_and, and_false, and_true]
      exact Nat.le_refl _) ?_
    rw [bnd_nr]
    exact RT.done hQ ⟨y1, y2⟩
  · intro k m ⟨ya, z⟩ hm ⟨y1, y2⟩ hk
    show RT (f_X12_storms_L62 (nI p) (nI o) (nI n) (nI t) (k + 1) ya (nI m) z) _
    dsimp only at y1 y2
    subst y1
    have vz : VM z 0 V := Z39_vm.mp (vm.qf cw.1 y2)
    unfold f_X12_storms_L62
    refine RT.itF (by
      simp (disch := omega) only [bnd_nr, li_0, li_1, li_2, li_3, li_4, li_5, li_6, li_7, li_8, li_9, li_10, li_11, li_12, li_13, li_14, li_15, li_16, li_17, li_18, li_19, li_20, li_21, li_22, li_23, li_24, li_25, li_26, li_27, li_28, li_29, li_30, li_31, li_32, li_33, li_34, li_35, li_36, li_37, li_38, li_39, li_40, li_41, li_42, li_43, li_44, li_45, li_46, li_47, li_48, li_49, li_50, li_51, li_52, li_53, li_54, li_55, li_56, li_57, li_58, li_59, li_60, li_61, li_62, li_63, li_64, li_74, li_86, li_87, li_88, li_96, li_97, li_98, li_99, li_100, li_101, li_102, li_103, li_104, li_105, li_107, li_108, li_109, li_110, li_111, li_112, li_114, li_115, li_116, li_117, li_118, li_121, li_122, li_124, li_136, li_148, li_160, li_680, li_200, li_201, li_255, li_700, li_950, li_1000, li_1400, li_3440, li_4096, li_9999, li_10000, li_20000, li_20033, li_20038, li_20124, li_32767, li_65535, li_1103515245, li_12345, li_m, sx_grd, sx_clamp, nI_add, sx_sub, pk_mul, sx_le, sx_lt, sx_eq, sx_eqm, sx_meq, sx_lem, sx_mle, sx_ltm, sx_mlt, sx_addm, sx_shl, sx_bit1, sx_bit0, fa_or, uA_s, uA_n, sA_s, sA_n, sx_uA, sx_uAn, sx_sAs, pk_us, pk_un, if_true, if_false, if_pos, if_neg, ob_some, Nat.add_zero, Nat.add_sub_cancel, eq_self, ne_eq, not_true, not_false_iff, false_or, true_or, or_false, or_true, false_and, true_and, and_false, and_true]
      omega) ?_
    refine RT.bind (m_tries vz cw.1) (fun q ⟨q1, q2, q3⟩ => ?_)
    have qf0 : ∀ {a b : MS}, EVF a b → QF (Z39 a) (Z39 b) := fun {a b} h => ⟨fun j hj => by
      show upd b.1 39 _ j = upd a.1 39 _ j
      by_cases e : j = 39
      · subst e; rw [pk_us, pk_us]
      · rw [pk_un e, pk_un e]; exact h.qf.1 j hj, h.2.1, h.qf.2.2.1, h.2.2.2⟩
    refine RT.loop0 (fun j i (y : Int32 × MS) => f_X12_storms_L80 (f_X12_storms_L62 (nI p) (nI o) (nI n) (nI t) k) (nI p) (nI o) (nI n) (nI t) (nI (fb_sm (sT E (idV V nI) t n p o) m)) (nI m) j y.1 (nI i) y.2) n (fun i y => y.1 = nI (sN E (idV V nI) t m i).1 ∧ QF M (Z39 y.2) ∧ VM y.2 86 (sN E (idV V nI) t m i).2) Q (_, q) (by omega) ⟨rfl, y2.trans (qf0 q1), q3⟩ ?_ ?_
    · intro j ⟨xa, x⟩ ⟨x1, x2, x3⟩
      show RT (f_X12_storms_L80 (f_X12_storms_L62 (nI p) (nI o) (nI n) (nI t) k) (nI p) (nI o) (nI n) (nI t) (nI (fb_sm (sT E (idV V nI) t n p o) m)) (nI m) (j + 1) xa (nI n) x) _
      dsimp only at x1 x2 x3
      subst x1
      obtain ⟨wi, ei, ni, li⟩ := sN_wf (m := m) cwi ht n (by omega)
      have n9 : vn (sN E (idV V nI) t m n).2 = vn V := ni
      unfold f_X12_storms_L80
      refine RT.itT (nI_le (Nat.le_refl _) (by omega)) ?_
      rw [m_areIn x3 wi.1 (by omega) (by omega), ob_some]
      by_cases e : ho (sN E (idV V nI) t m n).2 p = ho (sN E (idV V nI) t m n).2 o
      · rw [if_pos e, if_neg (by decide), bnd_nr, bnd_nr, nI_1, nI_add]
        refine hk (nI (fb_sm (sT E (idV V nI) t n p o) m + (sN E (idV V nI) t m n).1), _) ⟨?_, x2⟩
        show nI _ = nI (fb_sm (sT E (idV V nI) t n p o) (m + 1))
        rw [fb_sm_succ]
        congr 2
        unfold sT; rw [if_pos e]
      · rw [if_neg e, if_pos (show nI 0 = (0 : Int32) from rfl), bnd_nr, bnd_nr, nI_1, show (0 : Int32) = nI 0 from rfl, nI_add]
        refine hk (nI (fb_sm (sT E (idV V nI) t n p o) m + 0), _) ⟨?_, x2⟩
        show nI _ = nI (fb_sm (sT E (idV V nI) t n p o) (m + 1))
        rw [fb_sm_succ]
        congr 2
        unfold sT; rw [if_neg e]
    · intro j i ⟨xa, x⟩ hi ⟨x1, x2, x3⟩ hk2
      show RT (f_X12_storms_L80 (f_X12_storms_L62 (nI p) (nI o) (nI n) (nI t) k) (nI p) (nI o) (nI n) (nI t) (nI (fb_sm (sT E (idV V nI) t n p o) m)) (nI m) (j + 1) xa (nI i) x) _
      dsimp only at x1 x2 x3
      subst x1
      obtain ⟨wi, ei, ni, li⟩ := sN_wf (m := m) cwi ht i (by omega)
      have e9 : ve (idV V nI) ≤ 9999 := cw.2.1
      have ecx := ec.qf x2
      have st : sN E (idV V nI) t m (i + 1) = if m.testBit i then ((sN E (idV V nI) t m i).1 * t, stV (sN E (idV V nI) t m i).2) else ((sN E (idV V nI) t m i).1 * (10 - t), eN E (sN E (idV V nI) t m i).2) := rfl
      unfold f_X12_storms_L80
      refine RT.itF (nI_ge hi (by omega)) (RT.ite (fun y => ?_) (fun y => ?_))
      · have y0 : m.testBit i = true := (sr1_1 (by omega) (by omega)).mp y
        rw [y0, if_pos rfl] at st
        unfold f_X12_storms_J103
        refine RT.grd (by decide) ?_
        rw [bnd_nr]
        have u1 : VM (upd x.1 39 (1 : Int32), x.2) 86 (sN E (idV V nI) t m i).2 := Z39_vm.mp (by rw [Z39_upd]; exact Z39_vm.mpr x3)
        have u2 : QF M (Z39 (upd x.1 39 (1 : Int32), x.2)) := by rw [Z39_upd]; exact x2
        have u3 : ((upd x.1 39 (1 : Int32), x.2) : MS).1 39 = 1 := by show upd x.1 39 _ 39 = 1; exact pk_us
        have u4 : ((upd x.1 39 (1 : Int32), x.2) : MS).1 40 = nI 0 := by
          have := ecx.2.2.2
          change upd x.1 39 (nI 0) 40 = 0 at this
          rw [pk_un (by omega)] at this
          show upd x.1 39 (1 : Int32) 40 = _
          rw [pk_un (by omega)]; exact this
        generalize ((upd x.1 39 (1 : Int32), x.2) : MS) = u at *
        refine RT.itF (by rw [u3]; decide) ?_
        unfold f_X12_storms_J125
        rw [bnd_nr]
        refine RT.bind (m_evB (b := 86) (G := fun _ => false) u1 wi (by omega) GOK_no (by omega) (fun M' e1 _ _ h hh => m_storm (by rw [e1]; exact u3))) (fun r ⟨⟨r1, r2, r3⟩, r4, r5, r6, r7⟩ => ?_)
        rw [bnd_nr, nI_1]
        have ef : EVF u r := ⟨fun j hj => by
          by_cases e : j = 40
          · subst e; rw [r2, u4]; rfl
          · exact r1 j e hj, r4, r5, fun i hi => r7 i (Or.inl hi)⟩
        refine hk2 (nI (sN E (idV V nI) t m i).1 * nI t, _) ⟨?_, u2.trans (qf0 ef), ?_⟩
        · show nI (sN E (idV V nI) t m i).1 * nI t = _
          rw [pk_mul, st]
        · rw [st]; exact r6
      · have y0 : m.testBit i = false := by
          cases q : m.testBit i
          · rfl
          · exact absurd ((sr1_1 (by omega) (by omega)).mpr q) y
        rw [y0, if_neg (by decide)] at st
        unfold f_X12_storms_J103
        refine RT.grd (by decide) ?_
        rw [bnd_nr]
        refine RT.itT (show ((upd x.1 39 (0 : Int32), x.2) : MS).1 39 = 0 from by show upd x.1 39 _ 39 = 0; exact pk_us) ?_
        unfold f_X12_storms_J125
        rw [bnd_nr]
        refine RT.bind (m_ev86 (M := Z39 x) (Z39_vm.mpr x3) wi ecx cw.2.2 (by omega)) (fun r ⟨r1, r2, r3⟩ => ?_)
        rw [bnd_nr, nI_1]
        refine hk2 (nI (sN E (idV V nI) t m i).1 * (nI 10 - nI t), _) ⟨?_, ?_, ?_⟩
        · show nI (sN E (idV V nI) t m i).1 * (nI 10 - nI t) = _
          rw [sx_sub ht, pk_mul, st]
        · have a := qf0 r1
          rw [show Z39 (Z39 x) = Z39 x from Z39_self (by show upd x.1 39 _ 39 = _; exact pk_us)] at a
          exact x2.trans a
        · rw [st]; exact r3
