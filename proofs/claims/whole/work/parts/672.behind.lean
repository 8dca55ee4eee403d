/-! what comes: the class's rows -/
theorem grd_d {α : Type} {P : Prop} [Decidable P] {o : Option α} (h : P) : grd (decide P) o = o := by rw [decide_eq_true h]; rfl
theorem sx_cpg12 {α : Type} {o : Option α} : grd (cpg (nI 0) (nI 0) (nI 12) 12 12) o = o := by rw [show cpg (nI 0) (nI 0) (nI 12) 12 12 = true from by decide]; rfl
theorem sx_cpg13 {α : Type} {o : Option α} : grd (cpg (nI 0) (nI 0) (nI 13) 13 13) o = o := by rw [show cpg (nI 0) (nI 0) (nI 13) 13 13 = true from by decide]; rfl
theorem cpy0 {f g : Nat → Int32} {n k : Nat} (h : k < n) : va_cpy f g 0 0 n k = f k := by
  rw [pk_cpy_in (by omega) (by omega)]; congr 1; omega
theorem c_copyFrom {v v0 : Ob} {V : VT} (c : VC v0 V) (w : WFP V) : RT (f_X10_copyFrom v v0) (fun r => VC r V) := by
  have b0 := w.1
  refine RT.cps (fun Q hQ => ?_)
  unfold f_X10_copyFrom
  simp (disch := omega) only [bnd_nr, li_0, li_1, li_2, li_3, li_4, li_5, li_6, li_7, li_8, li_9, li_10, li_11, li_12, li_13, li_14, li_15, li_16, li_17, li_18, li_19, li_20, li_21, li_22, li_23, li_24, li_25, li_26, li_27, li_28, li_29, li_30, li_31, li_32, li_33, li_34, li_35, li_36, li_37, li_38, li_39, li_40, li_41, li_42, li_43, li_44, li_45, li_46, li_47, li_48, li_49, li_50, li_51, li_52, li_53, li_54, li_55, li_56, li_57, li_58, li_59, li_60, li_61, li_62, li_63, li_64, li_74, li_86, li_87, li_88, li_96, li_97, li_98, li_99, li_100, li_101, li_102, li_103, li_104, li_105, li_107, li_108, li_109, li_110, li_111, li_112, li_114, li_115, li_116, li_117, li_118, li_121, li_122, li_124, li_136, li_148, li_160, li_680, li_200, li_201, li_255, li_700, li_950, li_1000, li_1400, li_3440, li_4096, li_9999, li_10000, li_20000, li_20033, li_20038, li_20124, li_32767, li_65535, li_1103515245, li_12345, li_m, sx_grd, sx_clamp, nI_add, sx_sub, pk_mul, sx_le, sx_lt, sx_eq, sx_eqm, sx_meq, sx_lem, sx_mle, sx_ltm, sx_mlt, sx_addm, sx_shl, sx_bit1, sx_bit0, fa_or, uA_s, uA_n, sA_s, sA_n, sx_uA, sx_uAn, sx_sAs, pk_us, pk_un, if_true, if_false, if_pos, if_neg, ob_some, Nat.add_zero, Nat.add_sub_cancel, eq_self, ne_eq, not_true, not_false_iff, false_or, true_or, or_false, or_true, false_and, true_and, and_false, and_true, sx_cpg12, sx_cpg13]
  refine RT.done hQ ⟨⟨?_, ?_, ?_⟩, fun p hp => ?_, fun h hh => ?_⟩
  · simp (disch := omega) only [uA_s, uA_n, sA_s, sA_n, pk_us, pk_un]; exact c.1.1
  · simp (disch := omega) only [uA_s, uA_n, sA_s, sA_n, pk_us, pk_un]; exact c.1.2.1
  · simp (disch := omega) only [uA_s, uA_n, sA_s, sA_n, pk_us, pk_un]; exact c.1.2.2
  · simp (disch := omega) only [uA_s, uA_n, sA_s, sA_n, pk_us, pk_un, cpy0]
    exact c.2.1 p hp
  · simp (disch := omega) only [uA_s, uA_n, sA_s, sA_n, pk_us, pk_un, cpy0]
    exact c.2.2 h hh
def gm (E : RE) (V0 : VT) (i : Nat) : Nat := msk (gN E (It E V0 (i - 1))) (vn V0)
def COr (E : RE) (V0 : VT) (cs : CS) (fs : FS) (rd m : Nat) : Prop := (fs.1 = m ∧ 1 ≤ m ∧ m ≤ 201 ∧ rd < m) ∧ (∀ i, fs.2.1 i = if i < m then some i else none) ∧ cs.1 6 = nI rd ∧ (∀ i, i ≤ rd → VC (fs.2.2 i) (It E V0 i)) ∧ ∀ i, 1 ≤ i → i ≤ rd → cs.2.2 2 i = nI (gm E V0 i)
theorem rowF_old {N m i : Nat} {fs : FS} (h1 : fs.1 = m) (h2 : ∀ i, fs.2.1 i = if i < m then some i else none) (hi : i < m) (hN : i < N) (hN2 : N < 2147483648) : rowF N fs (nI i) = some (i, fs) := by
  unfold rowF
  rw [sx_grd hN hN2, sx_clamp (by omega), h2 i, if_pos hi]
  show grd (decide (i < fs.1)) _ = _
  rw [grd_d (by omega)]
theorem rowF_new {N m : Nat} {fs : FS} (h1 : fs.1 = m) (h2 : ∀ i, fs.2.1 i = if i < m then some i else none) (hN : m < N) (hN2 : N < 2147483648) : rowF N fs (nI m) = some (m, (m + 1, upO fs.2.1 m (some m), sV fs.2.2 m zV)) := by
  unfold rowF
  rw [sx_grd hN hN2, sx_clamp (by omega), h2 m, if_neg (by omega)]
  show grd (frs N fs.2.1 fs.1) _ = _
  have f : frs N fs.2.1 fs.1 = true := by
    unfold frs
    rw [List.all_eq_true]
    intro j _
    rw [decide_eq_true_eq, h1, h2 j]
    by_cases q : j < m
    · rw [if_pos q]; intro z; have := Option.some.inj z; omega
    · rw [if_neg q]; intro z; cases z
  rw [f, h1]; rfl
theorem sV_s {f : Nat → Ob} {k : Nat} {x : Ob} : sV f k x k = x := if_pos rfl
theorem sV_n {f : Nat → Ob} {k j : Nat} {x : Ob} (h : j ≠ k) : sV f k x j = f j := if_neg h
theorem upO_s {f : Nat → Option Nat} {k : Nat} {x : Option Nat} : upO f k x k = x := if_pos rfl
theorem upO_n {f : Nat → Option Nat} {k j : Nat} {x : Option Nat} (h : j ≠ k) : upO f k x j = f j := if_neg h
/-- row i + 1 is there or is made -/
theorem rowF_next {E : RE} {V0 : VT} {cs : CS} {fs : FS} {rd m i : Nat} (c : COr E V0 cs fs rd m) (hi : i < m) (h2 : i < 200) : ∃ fs', rowF 201 fs (nI (i + 1)) = some (i + 1, fs') ∧ fs'.1 = max m (i + 2) ∧ (∀ j, fs'.2.1 j = if j < max m (i + 2) then some j else none) ∧ ∀ j, j ≤ i → fs'.2.2 j = fs.2.2 j := by
  obtain ⟨⟨c1, c2, c3, c4⟩, c5, c6, c7, c8⟩ := c
  by_cases q : i + 1 < m
  · refine ⟨fs, rowF_old c1 c5 q (by omega) (by omega), by rw [c1]; omega, fun j => ?_, fun _ _ => rfl⟩
    rw [c5 j, show max m (i + 2) = m by omega]
  · have e : i + 1 = m := by omega
    refine ⟨_, by rw [e]; exact rowF_new c1 c5 (by omega) (by omega), ?_, fun j => ?_, fun j hj => ?_⟩
    · show m + 1 = _
      omega
    · show upO fs.2.1 m (some m) j = _
      rw [show max m (i + 2) = m + 1 by omega]
      by_cases jm : j = m
      · subst jm; rw [upO_s, if_pos (by omega)]
      · rw [upO_n jm, c5 j]
        by_cases jl : j < m
        · rw [if_pos jl, if_pos (by omega)]
        · rw [if_neg jl, if_neg (by omega)]
    · show sV fs.2.2 m zV j = _
      rw [sV_n (by omega)]
theorem c_behind {E : RE} {V0 : VT} {cs : CS} {D Rp Rk K : Ob} {fs : FS} {rd m e B5 : Nat} (c : COr E V0 cs fs rd m) (w : WFV V0) (he9 : ve V0 ≤ 9999) (k : EOK E) (h1 : RCo Rp E.1) (h2 : RCo Rk E.2) (he : e ≤ 200) (hB : B5 = max m (e + 1)) : RT (f_X1_behind cs D Rp Rk K fs B5 (nI e)) (fun q => q.1 = e ∧ COr E V0 q.2.1 q.2.2.2.2.2 (max rd e) (max m (e + 1)) ∧ RCo q.2.2.2.1 E.1 ∧ RCo q.2.2.2.2.1 E.2 ∧ q.2.1.2.1 = cs.2.1 ∧ VC (q.2.2.2.2.2.2.2 e) (It E V0 e)) := by
  refine RT.cps (fun Q hQ => ?_)
  have c0 := c
  obtain ⟨⟨c1, c2, c3, c4⟩, c5, c6, c7, c8⟩ := c0
  unfold f_X1_behind
  rw [bnd_nr, c6]
  have fin : ∀ (i : Nat) (n : Nat) (y : CS × Ob × Ob × Ob × FS), (e ≤ i) → COr E V0 y.1 y.2.2.2.2 i (max m (if rd < e then e + 1 else m)) → i = max rd e → RCo y.2.2.1 E.1 → RCo y.2.2.2.1 E.2 → y.1.2.1 = cs.2.1 → RT (f_X1_behind_L5 B5 (nI e) K (n + 1) (nI i) y.1 y.2.1 y.2.2.1 y.2.2.2.1 y.2.2.2.2) Q := by
    intro i n y ei yc ie y1 y2 y3
    have yc2 : COr E V0 y.1 y.2.2.2.2 (max rd e) (max m (e + 1)) := by
      rw [← ie]
      by_cases q : rd < e
      · rw [if_pos q] at yc; exact yc
      · rw [if_neg q] at yc
        rw [show max m (e + 1) = max m m by omega]; exact yc
    obtain ⟨⟨d1, d2, d3, d4⟩, d5, d6, d7, d8⟩ := yc2
    rw [f_X1_behind_L5]
    refine RT.itT (nI_le ei (by omega)) ?_
    unfold f_X1_behind_J64
    rw [rowF_old d1 d5 (show e < max m (e + 1) by omega) (by omega) (by omega), ob_some]
    refine RT.grd (decide_eq_true (by show 0 < y.2.2.2.2.1 ∧ y.2.2.2.2.1 ≤ y.2.2.2.2.1 ∧ y.2.2.2.2.1 ≤ B5; omega)) (RT.done hQ ⟨rfl, ⟨⟨d1, d2, d3, d4⟩, d5, d6, d7, d8⟩, y1, y2, y3, d7 e (by omega)⟩)
  by_cases q : rd < e
  · refine RT.loopI (fun n i (y : CS × Ob × Ob × Ob × FS) => f_X1_behind_L5 B5 (nI e) K n (nI i) y.1 y.2.1 y.2.2.1 y.2.2.2.1 y.2.2.2.2) rd e (fun i y => COr E V0 y.1 y.2.2.2.2 i (max m (i + 1)) ∧ RCo y.2.2.1 E.1 ∧ RCo y.2.2.2.1 E.2 ∧ y.1.2.1 = cs.2.1) Q (cs, D, Rp, Rk, fs) (by omega) (by omega) ⟨by rw [show max m (rd + 1) = m by omega]; exact c, h1, h2, rfl⟩ ?_ ?_
    · intro n y ⟨a, b, d, f⟩
      exact fin e n y (Nat.le_refl _) (by rw [if_pos q]; exact a) (by omega) b d f
    · intro n i y i0 hi ⟨a, b, d, f⟩ hk
      show RT (f_X1_behind_L5 B5 (nI e) K (n + 1) (nI i) y.1 y.2.1 y.2.2.1 y.2.2.2.1 y.2.2.2.2) _
      obtain ⟨fs', g1, g2, g3, g4⟩ := rowF_next a (show i < max m (i + 1) by omega) (by omega)
      obtain ⟨⟨a1, a2, a3, a4⟩, a5, a6, a7, a8⟩ := a
      have mm : max (max m (i + 1)) (i + 2) = max m (i + 2) := by omega
      rw [mm] at g2 g3
      obtain ⟨wi, ei, ni⟩ := It_wf (E := E) w i (by omega)
      rw [f_X1_behind_L5]
      refine RT.itF (nI_ge hi (by omega)) (RT.itF (show ¬ nI 200 ≤ nI i from nI_ge (by omega) (by omega)) ?_)
      rw [show nI i + 1 = nI (i + 1) from nI_1 i, g1, ob_some]
      refine RT.grd (decide_eq_true ⟨by omega, by show y.2.2.2.2.1 ≤ fs'.1; omega, by show fs'.1 ≤ B5; omega⟩) ?_
      rw [rowF_old g2 g3 (show i < max m (i + 2) by omega) (by omega) (by omega), ob_some]
      refine RT.grd (decide_eq_true (by show 0 < fs'.1 ∧ fs'.1 ≤ fs'.1 ∧ fs'.1 ≤ B5 ∧ i + 1 < fs'.1 ∧ i + 1 < fs'.1; omega)) (RT.grd (decide_eq_true (by show i + 1 < fs'.1; omega)) (RT.grd (decide_eq_true (by show i < fs'.1 ∧ i ≠ i + 1; omega)) ?_))
      refine RT.bind (c_copyFrom (V := It E V0 i) (by show VC (fs'.2.2 i) _; rw [g4 i (Nat.le_refl _)]; exact a7 i (Nat.le_refl _)) wi.1) (fun q15 h15 => ?_)
      rw [bnd_nr]
      refine RT.grd (decide_eq_true (by show i + 1 < fs'.1; omega)) ?_
      refine RT.bind (c_pass (Hm := 0) (E := E) (V := It E V0 i) (by show VC (sV fs'.2.2 (i + 1) q15 (i + 1)) _; rw [sV_s]; exact h15) wi k b d (by omega) (by omega)) (fun q19 ⟨p1, p2, p3, p4⟩ => ?_)
      rw [bnd_nr, sx_grd (by omega) (by omega), bnd_nr, bnd_nr, bnd_nr, sx_clamp (by omega)]
      refine hk (_, _, _, _, _) ⟨⟨⟨g2, by omega, by omega, by omega⟩, g3, ?_, fun j hj => ?_, fun j j1 j2 => ?_⟩, p2, p3, f⟩
      · show upd y.1.1 6 (nI (i + 1)) 6 = _
        exact pk_us
      · show VC (sV (sV fs'.2.2 (i + 1) q15) (i + 1) q19.2.2.2.2 j) _
        by_cases ji : j = i + 1
        · subst ji; rw [sV_s]; exact p4
        · rw [sV_n ji, sV_n ji, g4 j (by omega)]; exact a7 j (by omega)
      · show uA y.1.2.2 2 (i + 1) q19.1 2 j = _
        rw [uA_s]
        by_cases ji : j = i + 1
        · subst ji
          rw [pk_us, p1, gm, ni]
          rfl
        · rw [pk_un ji]; exact a8 j j1 (by omega)
  · have := fin rd 99999 (cs, D, Rp, Rk, fs) (by omega) (by rw [if_neg q, show max m m = m by omega]; exact c) (by omega) h1 h2 rfl
    exact this
theorem first_is {c : Nat → Bool} {n i : Nat} (hi : i < n) (h : c i = true) (no : ∀ j, j < i → c j = false) : fa_first c n = i := by
  rcases Nat.lt_trichotomy (fa_first c n) i with z | z | z
  · have := fa_first_yes c n (by omega)
    rw [no _ z] at this; cases this
  · exact z
  · have := fa_first_no c n i z
    rw [h] at this; cases this
theorem first_none {c : Nat → Bool} {n : Nat} (no : ∀ j, j < n → c j = false) : fa_first c n = n := by
  have := fa_first_le c n
  rcases Nat.lt_or_ge (fa_first c n) n with z | z
  · have y := fa_first_yes c n z
    rw [no _ z] at y; cases y
  · omega
