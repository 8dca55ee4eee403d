/-! trials: the best joining -/
theorem c_untilKnown {E : RE} {W : VT} {v D Rp Rk T K : Ob} {L : Nat} (c : VC T W) (cw : CW E W) (h1 : RCo Rp E.1) (h2 : RCo Rk E.2) (hL : L ≤ 100) : RT (f_X9_untilKnown v D Rp Rk T K (nI L)) (fun q => q.1 = (if AK E W < L + 1 then nI (AK E W) else mO) ∧ RCo q.2.2.1 E.1 ∧ RCo q.2.2.2.1 E.2) := by
  refine RT.cps (fun Q hQ => ?_)
  have b0 := cw.1.1.1
  have al : fa_first (fun i => akB E W (i + 1)) (L + 1) = min (L + 1) (AK E W) := first_min (by omega)
  unfold f_X9_untilKnown
  refine RT.bind (c_clear (E := E) (V0 := W) b0.1) (fun K0 hK0 => ?_)
  refine RT.loop0 (fun n i (y : Ob × Ob × Ob × Ob × Ob) => f_X9_untilKnown_L9 (nI L) v n (nI i) y.1 y.2.1 y.2.2.1 y.2.2.2.1 y.2.2.2.2) (L + 1) (fun i y => (∀ j, j < i → akB E W (j + 1) = false) ∧ KC y.2.2.2.2 E W i ∧ RCo y.2.1 E.1 ∧ RCo y.2.2.1 E.2 ∧ (i ≤ L → VC y.2.2.2.1 (It E W i))) Q (D, Rp, Rk, T, K0) (by omega) ⟨fun j hj => absurd hj (Nat.not_lt_zero _), hK0, h1, h2, fun _ => c⟩ ?_ ?_
  · intro n y ⟨no, y0, y1, y2, _⟩
    show RT (f_X9_untilKnown_L9 (nI L) v (n + 1) (nI (L + 1)) y.1 y.2.1 y.2.2.1 y.2.2.2.1 y.2.2.2.2) _
    have f := first_none no
    rw [al] at f
    unfold f_X9_untilKnown_L9
    refine RT.itT (nI_lt (by omega) (by omega)) (RT.done hQ ⟨?_, y1, y2⟩)
    rw [if_neg (by omega)]; rfl
  · intro n i y hi ⟨no, y0, y1, y2, y3⟩ hk
    show RT (f_X9_untilKnown_L9 (nI L) v (n + 1) (nI i) y.1 y.2.1 y.2.2.1 y.2.2.2.1 y.2.2.2.2) _
    have c9 := y3 (by omega)
    obtain ⟨wi, ei, ni⟩ := cw.it (E := E) (i := i) (by omega)
    unfold f_X9_untilKnown_L9
    refine RT.itF (nI_nlt (by omega) (by omega)) ?_
    refine RT.bind (c_liveK y0 c9 wi.1 ni) (fun q8 h8 => ?_)
    rw [c9.1.1, ni, c_isAll b0.1 h8, ob_some]
    cases eq : akB E W (i + 1)
    · have no' : ∀ j, j < i + 1 → akB E W (j + 1) = false := fun j hj => by
        by_cases ji : j = i
        · subst ji; exact eq
        · exact no j (by omega)
      refine RT.itT rfl (RT.ite (fun z => ?_) (fun z => ?_))
      · rw [bnd_nr, nI_1]
        simp (disch := omega) only [sx_le] at z
        exact hk (_, _, _, _, _) ⟨no', h8, y1, y2, fun z2 => by omega⟩
      · refine RT.bind (c_pass0 c9 wi cw.2.2 y1 y2 (by have := cw.2.1; omega)) (fun q ⟨_, q2, q3, q4⟩ => ?_)
        rw [bnd_nr, nI_1]
        exact hk (_, _, _, _, _) ⟨no', h8, q2, q3, fun _ => q4⟩
    · have f := first_is (c := fun i => akB E W (i + 1)) hi eq no
      rw [al] at f
      refine RT.itF (by decide) (RT.done hQ ⟨?_, y1, y2⟩)
      rw [if_pos (by omega)]; exact congrArg nI (by omega)
def jst (k c : Nat) (s : Nat × Int32) : Nat × Int32 := if k < 101 ∧ k < s.1 then (k, nI c) else s
def jbH (E : RE) (U : VT) (a : Nat) (s : Nat × Int32) : Nat → Nat × Int32 | 0 => s | b + 1 => if a = b then jbH E U a s b else jst (AK E (dropV (jnV U a b))) (100 * a + b) (jbH E U a s b)
def jbP (E : RE) (U : VT) (s : Nat × Int32) : Nat → Nat × Int32 | 0 => s | a + 1 => jbH E U a (jbP E U s a) (vh U)
theorem jst_bd {k c : Nat} {s : Nat × Int32} : (jst k c s).1 ≤ s.1 := by
  unfold jst
  split
  · rename_i z; show k ≤ _; omega
  · omega
theorem jbH_bd {E : RE} {U : VT} {a : Nat} {s : Nat × Int32} : ∀ n, (jbH E U a s n).1 ≤ s.1
  | 0 => Nat.le_refl _
  | n + 1 => by
    have ih := jbH_bd (E := E) (U := U) (a := a) (s := s) n
    rw [jbH]
    split
    · exact ih
    · exact Nat.le_trans jst_bd ih
theorem jbP_bd {E : RE} {U : VT} {s : Nat × Int32} : ∀ n, (jbP E U s n).1 ≤ s.1
  | 0 => Nat.le_refl _
  | n + 1 => Nat.le_trans (jbH_bd _) (jbP_bd n)
/-- one less, from 0 the number below 0 -/
def lm (n : Nat) : Int32 := if n = 0 then mO else nI (n - 1)
theorem c_bestJoin {E : RE} {U : VT} {v D Rp Rk T K N0 : Ob} {s : Nat × Int32} (c : VC N0 U) (cw : CW E U) (h1 : RCo Rp E.1) (h2 : RCo Rk E.2) : RT (f_X9_bestJoin_L20 v N0 FUEL s.2 (lm (min 101 s.1)) (nI 0) D Rp Rk T K) (fun q => q.1 = (jbP E U s (vh U)).2 ∧ RCo q.2.2.1 E.1 ∧ RCo q.2.2.2.1 E.2) := by
  refine RT.cps (fun Q hQ => ?_)
  have b0 := cw.1.1.1
  have b1 := cw.1.hn
  refine RT.loop0 (fun n p (y : Int32 × Int32 × Ob × Ob × Ob × Ob × Ob) => f_X9_bestJoin_L20 v N0 n y.1 y.2.1 (nI p) y.2.2.1 y.2.2.2.1 y.2.2.2.2.1 y.2.2.2.2.2.1 y.2.2.2.2.2.2) (vh U) (fun p y => y.1 = (jbP E U s p).2 ∧ y.2.1 = lm (min 101 (jbP E U s p).1) ∧ RCo y.2.2.2.1 E.1 ∧ RCo y.2.2.2.2.1 E.2) Q (s.2, _, D, Rp, Rk, T, K) (by omega) ⟨rfl, rfl, h1, h2⟩ ?_ ?_
  · intro n y ⟨y1, y2, y3, y4⟩
    show RT (f_X9_bestJoin_L20 v N0 (n + 1) y.1 y.2.1 (nI (vh U)) y.2.2.1 y.2.2.2.1 y.2.2.2.2.1 y.2.2.2.2.2.1 y.2.2.2.2.2.2) _
    unfold f_X9_bestJoin_L20
    exact RT.itT (by rw [c.1.2.1]; exact nI_le (Nat.le_refl _) (by omega)) (RT.done hQ ⟨y1, y3, y4⟩)
  · intro n p y hp9 ⟨y1, y2, y3, y4⟩ hk
    show RT (f_X9_bestJoin_L20 v N0 (n + 1) y.1 y.2.1 (nI p) y.2.2.1 y.2.2.2.1 y.2.2.2.2.1 y.2.2.2.2.2.1 y.2.2.2.2.2.2) _
    unfold f_X9_bestJoin_L20
    refine RT.itF (by rw [c.1.2.1]; exact nI_ge hp9 (by omega)) ?_
    refine RT.loop0 (fun m h (x : Int32 × Int32 × Ob × Ob × Ob × Ob × Ob) => f_X9_bestJoin_L32 (f_X9_bestJoin_L20 v N0 n) (nI p) v N0 m x.1 x.2.1 (nI h) x.2.2.1 x.2.2.2.1 x.2.2.2.2.1 x.2.2.2.2.2.1 x.2.2.2.2.2.2) (vh U) (fun h x => x.1 = (jbH E U p (jbP E U s p) h).2 ∧ x.2.1 = lm (min 101 (jbH E U p (jbP E U s p) h).1) ∧ RCo x.2.2.2.1 E.1 ∧ RCo x.2.2.2.2.1 E.2) Q y (by omega) ⟨y1, y2, y3, y4⟩ ?_ ?_
    · intro m x ⟨x1, x2, x3, x4⟩
      show RT (f_X9_bestJoin_L32 (f_X9_bestJoin_L20 v N0 n) (nI p) v N0 (m + 1) x.1 x.2.1 (nI (vh U)) x.2.2.1 x.2.2.2.1 x.2.2.2.2.1 x.2.2.2.2.2.1 x.2.2.2.2.2.2) _
      unfold f_X9_bestJoin_L32
      refine RT.itT (by rw [c.1.2.1]; exact nI_le (Nat.le_refl _) (by omega)) ?_
      rw [bnd_nr, nI_1]
      exact hk (_, _, _, _, _, _, _) ⟨x1, x2, x3, x4⟩
    · intro m h ⟨xa, xb, xD, xP, xK, xT, xN⟩ hh ⟨x1, x2, x3, x4⟩ hk2
      show RT (f_X9_bestJoin_L32 (f_X9_bestJoin_L20 v N0 n) (nI p) v N0 (m + 1) xa xb (nI h) xD xP xK xT xN) _
      have nxt : jbH E U p (jbP E U s p) (h + 1) = (if p = h then jbH E U p (jbP E U s p) h else jst (AK E (dropV (jnV U p h))) (100 * p + h) (jbH E U p (jbP E U s p) h)) := rfl
      generalize jbH E U p (jbP E U s p) h = t at *
      dsimp only at x1 x2 x3 x4
      unfold f_X9_bestJoin_L32
      refine RT.itF (by rw [c.1.2.1]; exact nI_ge hh (by omega)) ?_
      rcases Nat.eq_zero_or_pos t.1 with t0 | t0
      · have e9 : xb = mO := by rw [x2, t0]; rfl
        refine RT.itT (by rw [e9]; decide) ?_
        rw [bnd_nr, nI_1]
        have nt : jbH E U p (jbP E U s p) (h + 1) = t := by
          rw [nxt]; split
          · rfl
          · unfold jst; rw [if_neg (by omega)]
        exact hk2 (_, _, _, _, _, _, _) ⟨by rw [nt]; exact x1, by rw [nt]; exact x2, x3, x4⟩
      · have e9 : xb = nI (min 101 t.1 - 1) := by rw [x2]; unfold lm; rw [if_neg (by omega)]
        refine RT.itF (by rw [e9]; exact nI_nlt (b := 0) (by omega) (by omega)) ?_
        refine RT.ite (fun e => ?_) (fun e => ?_)
        · rw [nI_eq (by omega) (by omega)] at e
          rw [bnd_nr, nI_1]
          exact hk2 (_, _, _, _, _, _, _) ⟨by rw [nxt, if_pos e]; exact x1, by rw [nxt, if_pos e]; exact x2, x3, x4⟩
        · rw [nI_eq (by omega) (by omega)] at e
          rw [if_neg e] at nxt
          refine RT.bind (c_copyFrom c cw.1.1) (fun q hq => ?_)
          refine RT.bind (c_joinTo hq cw.1 hp9 hh e) (fun r hr => ?_)
          have w2 := WFV_jnd cw.1 hp9 hh e
          rw [e9]
          refine RT.bind (c_untilKnown (L := min 101 t.1 - 1) hr ⟨w2, cw.2.1, cw.2.2⟩ x3 x4 (by omega)) (fun r ⟨r1, r2, r3⟩ => ?_)
          generalize AK E (dropV (jnV U p h)) = f at *
          unfold jst at nxt
          by_cases zz : f < 101 ∧ f < t.1
          · rw [if_pos (by omega)] at r1
            rw [if_pos zz] at nxt
            rw [r1]
            refine RT.itF (show ¬ nI f = mO from by rw [sx_eqm (by omega)]; exact fun t => t) ?_
            rw [bnd_nr, bnd_nr, bnd_nr, nI_1]
            refine hk2 (_, _, _, _, _, _, _) ⟨?_, ?_, r2, r3⟩
            · rw [nxt]
              show nI 100 * nI p + nI h = nI (100 * p + h)
              rw [pk_mul, nI_add]
            · rw [nxt]
              show nI f - 1 = lm (min 101 f)
              unfold lm
              by_cases f0 : f = 0
              · rw [if_pos (by omega), f0]; rfl
              · rw [if_neg (by omega), show min 101 f = f by omega]
                exact sx_sub (b := 1) (by omega)
          · rw [if_neg zz] at nxt
            rw [if_neg (by omega)] at r1
            refine RT.itT r1 ?_
            rw [bnd_nr, nI_1]
            exact hk2 (_, nI (min 101 t.1 - 1), _, _, _, _, _) ⟨by rw [nxt]; exact x1, by rw [nxt, ← e9]; exact x2, r2, r3⟩
theorem AK_le {E : RE} {U : VT} : AK E U ≤ 101 := fa_first_le _ _
theorem c_bestJoin0 {E : RE} {U : VT} {v D Rp Rk T K N0 : Ob} {r : Int32} (c : VC N0 U) (cw : CW E U) (h1 : RCo Rp E.1) (h2 : RCo Rk E.2) (hr : r = (if AK E U < 101 then nI (AK E U) else mO)) : RT (f_X9_bestJoin v D Rp Rk T K N0 r) (fun q => q.1 = (jbP E U (if AK E U < 101 then AK E U else 9999, mO) (vh U)).2 ∧ RCo q.2.2.1 E.1 ∧ RCo q.2.2.2.1 E.2) := by
  have key := c_bestJoin (s := (if AK E U < 101 then AK E U else 9999, mO)) (v := v) (D := D) (Rp := Rp) (Rk := Rk) (T := T) (K := K) c cw h1 h2
  unfold f_X9_bestJoin
  generalize AK E U = F at *
  by_cases z : F < 101
  · rw [if_pos z] at hr key ⊢
    rw [hr]
    refine RT.itF (show ¬ nI F = mO from by rw [sx_eqm (by omega)]; exact fun t => t) ?_
    rw [bnd_nr]
    rw [show nI F - (1 : Int32) = lm (min 101 F) from by
      unfold lm
      by_cases f0 : F = 0
      · rw [if_pos (by omega), f0]; rfl
      · rw [if_neg (by omega), show min 101 F = F by omega]
        exact sx_sub (b := 1) (by omega)]
    exact key
  · rw [if_neg z] at hr key ⊢
    rw [hr]
    exact RT.itT rfl key
theorem m_toJoin0 {M : MS} {E : RE} {V : VT} {s : Nat × Int32} (vm : VM M 0 V) (cw : CW E V) (ec : EC E M) (s2 : s.1 ≤ 9999) : RT (f_X12_toJoin_L18 FUEL (nI s.1) s.2 (nI 0) M) (fun q => q.1 = (jbP E (idV V nI) s (vh V)).2 ∧ QF M q.2) := by
  refine RT.cps (fun Q hQ => ?_)
  have b0 := cw.1.1.1
  have b1 := cw.1.hn
  refine RT.loop0 (fun n p (y : Int32 × Int32 × MS) => f_X12_toJoin_L18 n y.1 y.2.1 (nI p) y.2.2) (vh V) (fun p y => y.1 = nI (jbP E (idV V nI) s p).1 ∧ y.2.1 = (jbP E (idV V nI) s p).2 ∧ QF M y.2.2) Q (nI s.1, s.2, M) (by omega) ⟨rfl, rfl, QF.refl M⟩ ?_ ?_
  · intro n ⟨ya, yb, z⟩ ⟨y1, y2, y3⟩
    show RT (f_X12_toJoin_L18 (n + 1) ya yb (nI (vh V)) z) _
    have vz := vm.qf cw.1 y3
    have e1 : z.2.2 10 1 = nI (vh V) := vz.n
    unfold f_X12_toJoin_L18
    simp (disch := omega) only [bnd_nr, li_0, li_1, li_2, li_3, li_4, li_5, li_6, li_7, li_8, li_9, li_10, li_11, li_12, li_13, li_14, li_15, li_16, li_17, li_18, li_19, li_20, li_21, li_22, li_23, li_24, li_25, li_26, li_27, li_28, li_29, li_30, li_31, li_32, li_33, li_34, li_35, li_36, li_37, li_38, li_39, li_40, li_41, li_42, li_43, li_44, li_45, li_46, li_47, li_48, li_49, li_50, li_51, li_52, li_53, li_54, li_55, li_56, li_57, li_58, li_59, li_60, li_61, li_62, li_63, li_64, li_74, li_86, li_87, li_88, li_96, li_97, li_98, li_99, li_100, li_101, li_102, li_103, li_104, li_105, li_107, li_108, li_109, li_110, li_111, li_112, li_114, li_115, li_116, li_117, li_118, li_121, li_122, li_124, li_136, li_148, li_160, li_680, li_200, li_201, li_255, li_700, li_950, li_1000, li_1400, li_3440, li_4096, li_9999, li_10000, li_20000, li_20033, li_20038, li_20124, li_32767, li_65535, li_1103515245, li_12345, li_m, sx_grd, sx_clamp, nI_add, sx_sub, pk_mul, sx_le, sx_lt, sx_eq, sx_eqm, sx_meq, sx_lem, sx_mle, sx_ltm, sx_mlt, sx_addm, sx_shl, sx_bit1, sx_bit0, fa_or, uA_s, uA_n, sA_s, sA_n, sx_uA, sx_uAn, sx_sAs, pk_us, pk_un, if_true, if_false, if_pos, if_neg, ob_some, Nat.add_zero, Nat.add_sub_cancel, eq_self, ne_eq, not_true, not_false_iff, false_or, true_or, or_false, or_true, false_and, true_and, and_false, and_true, e1]
    exact RT.done hQ ⟨y2, y3⟩
  · intro n p ⟨ya, yb, z⟩ hp9 ⟨y1, y2, y3⟩ hk
    show RT (f_X12_toJoin_L18 (n + 1) ya yb (nI p) z) _
    have vz := vm.qf cw.1 y3
    have e1 : z.2.2 10 1 = nI (vh V) := vz.n
    have bd := jbP_bd (E := E) (U := idV V nI) (s := s) p
    unfold f_X12_toJoin_L18
    simp (disch := omega) only [bnd_nr, li_0, li_1, li_2, li_3, li_4, li_5, li_6, li_7, li_8, li_9, li_10, li_11, li_12, li_13, li_14, li_15, li_16, li_17, li_18, li_19, li_20, li_21, li_22, li_23, li_24, li_25, li_26, li_27, li_28, li_29, li_30, li_31, li_32, li_33, li_34, li_35, li_36, li_37, li_38, li_39, li_40, li_41, li_42, li_43, li_44, li_45, li_46, li_47, li_48, li_49, li_50, li_51, li_52, li_53, li_54, li_55, li_56, li_57, li_58, li_59, li_60, li_61, li_62, li_63, li_64, li_74, li_86, li_87, li_88, li_96, li_97, li_98, li_99, li_100, li_101, li_102, li_103, li_104, li_105, li_107, li_108, li_109, li_110, li_111, li_112, li_114, li_115, li_116, li_117, li_118, li_121, li_122, li_124, li_136, li_148, li_160, li_680, li_200, li_201, li_255, li_700, li_950, li_1000, li_1400, li_3440, li_4096, li_9999, li_10000, li_20000, li_20033, li_20038, li_20124, li_32767, li_65535, li_1103515245, li_12345, li_m, sx_grd, sx_clamp, nI_add, sx_sub, pk_mul, sx_le, sx_lt, sx_eq, sx_eqm, sx_meq, sx_lem, sx_mle, sx_ltm, sx_mlt, sx_addm, sx_shl, sx_bit1, sx_bit0, fa_or, uA_s, uA_n, sA_s, sA_n, sx_uA, sx_uAn, sx_sAs, pk_us, pk_un, if_true, if_false, if_pos, if_neg, ob_some, Nat.add_zero, Nat.add_sub_cancel, eq_self, ne_eq, not_true, not_false_iff, false_or, true_or, or_false, or_true, false_and, true_and, and_false, and_true, e1]
    refine RT.loop0 (fun m h (x : Int32 × Int32 × MS) => f_X12_toJoin_L31 (f_X12_toJoin_L18 n) (nI p) m x.1 x.2.1 (nI h) x.2.2) (vh V) (fun h x => x.1 = nI (jbH E (idV V nI) p (jbP E (idV V nI) s p) h).1 ∧ x.2.1 = (jbH E (idV V nI) p (jbP E (idV V nI) s p) h).2 ∧ QF M x.2.2) Q (ya, yb, z) (by omega) ⟨y1, y2, y3⟩ ?_ ?_
    · intro m ⟨xa, xb, z⟩ ⟨x1, x2, x3⟩
      show RT (f_X12_toJoin_L31 (f_X12_toJoin_L18 n) (nI p) (m + 1) xa xb (nI (vh V)) z) _
      have vz := vm.qf cw.1 x3
      unfold f_X12_toJoin_L31
      have e1 : z.2.2 10 1 = nI (vh V) := vz.n
      simp (disch := omega) only [bnd_nr, li_0, li_1, li_2, li_3, li_4, li_5, li_6, li_7, li_8, li_9, li_10, li_11, li_12, li_13, li_14, li_15, li_16, li_17, li_18, li_19, li_20, li_21, li_22, li_23, li_24, li_25, li_26, li_27, li_28, li_29, li_30, li_31, li_32, li_33, li_34, li_35, li_36, li_37, li_38, li_39, li_40, li_41, li_42, li_43, li_44, li_45, li_46, li_47, li_48, li_49, li_50, li_51, li_52, li_53, li_54, li_55, li_56, li_57, li_58, li_59, li_60, li_61, li_62, li_63, li_64, li_74, li_86, li_87, li_88, li_96, li_97, li_98, li_99, li_100, li_101, li_102, li_103, li_104, li_105, li_107, li_108, li_109, li_110, li_111, li_112, li_114, li_115, li_116, li_117, li_118, li_121, li_122, li_124, li_136, li_148, li_160, li_680, li_200, li_201, li_255, li_700, li_950, li_1000, li_1400, li_3440, li_4096, li_9999, li_10000, li_20000, li_20033, li_20038, li_20124, li_32767, li_65535, li_1103515245, li_12345, li_m, sx_grd, sx_clamp, nI_add, sx_sub, pk_mul, sx_le, sx_lt, sx_eq, sx_eqm, sx_meq, sx_lem, sx_mle, sx_ltm, sx_mlt, sx_addm, sx_shl, sx_bit1, sx_bit0, fa_or, uA_s, uA_n, sA_s, sA_n, sx_uA, sx_uAn, sx_sAs, pk_us, pk_un, if_true, if_false, if_pos, if_neg, ob_some, Nat.add_zero, Nat.add_sub_cancel, eq_self, ne_eq, not_true, not_false_iff, false_or, true_or, or_false, or_true, false_and, true_and, and_false, and_true, e1]
      exact hk (_, _, _) ⟨x1, x2, x3⟩
    · intro m h ⟨xa, xb, z⟩ hh ⟨x1, x2, x3⟩ hk2
      show RT (f_X12_toJoin_L31 (f_X12_toJoin_L18 n) (nI p) (m + 1) xa xb (nI h) z) _
      have vz : VM z 0 V := vm.qf cw.1 x3
      have bd2 := jbH_bd (E := E) (U := idV V nI) (a := p) (s := jbP E (idV V nI) s p) h
      have nxt : jbH E (idV V nI) p (jbP E (idV V nI) s p) (h + 1) = (if p = h then jbH E (idV V nI) p (jbP E (idV V nI) s p) h else jst (AK E (dropV (jnV (idV V nI) p h))) (100 * p + h) (jbH E (idV V nI) p (jbP E (idV V nI) s p) h)) := rfl
      generalize jbH E (idV V nI) p (jbP E (idV V nI) s p) h = t at *
      dsimp only at x1 x2 x3
      subst x1 x2
      unfold f_X12_toJoin_L31
      have e1 : z.2.2 10 1 = nI (vh V) := vz.n
      simp (disch := omega) only [bnd_nr, li_0, li_1, li_2, li_3, li_4, li_5, li_6, li_7, li_8, li_9, li_10, li_11, li_12, li_13, li_14, li_15, li_16, li_17, li_18, li_19, li_20, li_21, li_22, li_23, li_24, li_25, li_26, li_27, li_28, li_29, li_30, li_31, li_32, li_33, li_34, li_35, li_36, li_37, li_38, li_39, li_40, li_41, li_42, li_43, li_44, li_45, li_46, li_47, li_48, li_49, li_50, li_51, li_52, li_53, li_54, li_55, li_56, li_57, li_58, li_59, li_60, li_61, li_62, li_63, li_64, li_74, li_86, li_87, li_88, li_96, li_97, li_98, li_99, li_100, li_101, li_102, li_103, li_104, li_105, li_107, li_108, li_109, li_110, li_111, li_112, li_114, li_115, li_116, li_117, li_118, li_121, li_122, li_124, li_136, li_148, li_160, li_680, li_200, li_201, li_255, li_700, li_950, li_1000, li_1400, li_3440, li_4096, li_9999, li_10000, li_20000, li_20033, li_20038, li_20124, li_32767, li_65535, li_1103515245, li_12345, li_m, sx_grd, sx_clamp, nI_add, sx_sub, pk_mul, sx_le, sx_lt, sx_eq, sx_eqm, sx_meq, sx_lem, sx_mle, sx_ltm, sx_mlt, sx_addm, sx_shl, sx_bit1, sx_bit0, fa_or, uA_s, uA_n, sA_s, sA_n, sx_uA, sx_uAn, sx_sAs, pk_us, pk_un, if_true, if_false, if_pos, if_neg, ob_some, Nat.add_zero, Nat.add_sub_cancel, eq_self, ne_eq, not_true, not_false_iff, false_or, true_or, or_false, or_true, false_and, true_and, and_false, and_true, e1]
      refine RT.ite (fun e => ?_) (fun e => ?_)
      · exact hk2 (nI t.1, t.2, _) ⟨by rw [nxt, if_pos e], by rw [nxt, if_pos e], x3⟩
      · rw [if_neg e] at nxt
        refine RT.bind (m_tries vz cw.1) (fun q ⟨q1, q2, q3⟩ => ?_)
        have wi := cw.1.idv nI
        have w2 := WFV_jnd wi hp9 hh e
        refine RT.bind (m_joins q3 wi (by omega) hp9 hh e) (fun r hr => ?_)
        have rq := hr.qf
        have rv : VM r 86 (dropV (jnV (idV V nI) p h)) := hr.vm w2.1.1.1 (Nat.le_trans w2.hn w2.1.1.1) q3.1
        have ecr := (ec.qf (x3.trans (q1.qf.trans rq)))
        refine RT.bind (m_allKnownIn rv w2 ecr cw.2.2 (by show ve V + 101 ≤ 20000; have := cw.2.1; omega)) (fun a ⟨a1, a2⟩ => ?_)
        have fl := AK_le (E := E) (U := dropV (jnV (idV V nI) p h))
        generalize AK E (dropV (jnV (idV V nI) p h)) = f at *
        rw [a2]
        have qa := x3.trans (q1.qf.trans (rq.trans a1))
        unfold jst at nxt
        by_cases f1 : f < 101
        · rw [if_pos f1]
          simp (disch := omega) only [sx_lt]
          by_cases f2 : f < t.1
          · rw [if_pos ⟨f1, f2⟩] at nxt
            rw [if_pos f2]
            exact hk2 (nI f, nI (100 * p + h), _) ⟨by rw [nxt], by rw [nxt], qa⟩
          · rw [if_neg (by omega)] at nxt
            rw [if_neg f2]
            exact hk2 (nI t.1, t.2, _) ⟨by rw [nxt], by rw [nxt], qa⟩
        · rw [if_neg f1]
          rw [if_neg (by omega)] at nxt
          simp (disch := omega) only [sx_lt]
          rw [if_neg (by omega)]
          exact hk2 (nI t.1, t.2, _) ⟨by rw [nxt], by rw [nxt], qa⟩
