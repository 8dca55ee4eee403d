/-! trials: the best move to meet -/
theorem first_min {c : Nat → Bool} {n m : Nat} (h : n ≤ m) : fa_first c n = min n (fa_first c m) := by
  have l := fa_first_le c m
  rcases Nat.lt_or_ge (fa_first c m) n with z | z
  · rw [show min n (fa_first c m) = fa_first c m by omega]
    exact first_is z (fa_first_yes c m (by omega)) (fun j hj => fa_first_no c m j hj)
  · rw [show min n (fa_first c m) = n by omega]
    exact first_none (fun j hj => fa_first_no c m j (by omega))
theorem FW_min {E : RE} {V0 : VT} {p o : Nat} {b : Bool} {n m : Nat} (h : n ≤ m) : FW E V0 p o b n = min n (FW E V0 p o b m) := first_min h
theorem FW_le {E : RE} {V0 : VT} {p o : Nat} {b : Bool} {n : Nat} : FW E V0 p o b n ≤ n := fa_first_le _ _
theorem MR.qf {M r : MS} {V : VT} (h : MR M r 86 V) : QF M r := by
  obtain ⟨h1, h2, h3, X, h4, _⟩ := h
  refine ⟨fun k _ => by rw [h1], h2, fun j hj _ => h3 j hj, fun i hi => ?_⟩
  rw [h4, rowf_out (Or.inl hi)]
theorem c_pass0 {D Rp Rk v : Ob} {E : RE} {V : VT} (c : VC v V) (w : WFV V) (k : EOK E) (h1 : RCo Rp E.1) (h2 : RCo Rk E.2) (he : ve V < 20000) : RT (f_X2_pass D Rp Rk v (nI 0)) (fun q => q.1 = nI (msk (gN E V) (vn V)) ∧ RCo q.2.2.1 E.1 ∧ RCo q.2.2.2.1 E.2 ∧ VC q.2.2.2.2 (eN E V)) := c_pass (Hm := 0) c w k h1 h2 (by omega) he
theorem c_untilMet {E : RE} {W : VT} {v D Rp Rk T K : Ob} {p o L : Nat} (c : VC T W) (cw : CW E W) (h1 : RCo Rp E.1) (h2 : RCo Rk E.2) (hp : p < vn W) (ho9 : o < vn W) (hL : L ≤ 100) : RT (f_X9_untilMet v D Rp Rk T K (nI p) (nI o) (nI L)) (fun q => q.1 = (if FW E W p o true (L + 1) < L + 1 then nI (FW E W p o true (L + 1)) else mO) ∧ RCo q.2.2.1 E.1 ∧ RCo q.2.2.2.1 E.2) := by
  refine RT.cps (fun Q hQ => ?_)
  unfold f_X9_untilMet
  refine RT.loop0 (fun n i (y : Ob × Ob × Ob × Ob) => f_X9_untilMet_L3 (nI p) (nI o) (nI L) v K n (nI i) y.1 y.2.1 y.2.2.1 y.2.2.2) (L + 1) (fun i y => (∀ j, j < i → (inB (It E W j) p o == true) = false) ∧ RCo y.2.1 E.1 ∧ RCo y.2.2.1 E.2 ∧ (i ≤ L → VC y.2.2.2 (It E W i))) Q (D, Rp, Rk, T) (by omega) ⟨fun j hj => absurd hj (Nat.not_lt_zero _), h1, h2, fun _ => c⟩ ?_ ?_
  · intro n y ⟨no, y1, y2, _⟩
    show RT (f_X9_untilMet_L3 (nI p) (nI o) (nI L) v K (n + 1) (nI (L + 1)) y.1 y.2.1 y.2.2.1 y.2.2.2) _
    have f : FW E W p o true (L + 1) = L + 1 := first_none no
    unfold f_X9_untilMet_L3
    refine RT.itT (nI_lt (by omega) (by omega)) (RT.done hQ ⟨?_, y1, y2⟩)
    rw [f, if_neg (by omega)]; rfl
  · intro n i y hi ⟨no, y1, y2, y3⟩ hk
    show RT (f_X9_untilMet_L3 (nI p) (nI o) (nI L) v K (n + 1) (nI i) y.1 y.2.1 y.2.2.1 y.2.2.2) _
    have c9 := y3 (by omega)
    obtain ⟨wi, ei, ni⟩ := cw.it (E := E) (i := i) (by omega)
    unfold f_X9_untilMet_L3
    refine RT.itF (nI_nlt (by omega) (by omega)) ?_
    rw [c_inOne c9 wi.1 (by omega) (by omega), ob_some]
    by_cases eq : ho (It E W i) p = ho (It E W i) o
    · have f : FW E W p o true (L + 1) = i := first_is hi (by unfold inB; rw [decide_eq_true eq]; rfl) no
      rw [if_pos eq]
      exact RT.itF (by decide) (RT.done hQ ⟨by rw [f, if_pos hi], y1, y2⟩)
    · rw [if_neg eq]
      have no' : ∀ j, j < i + 1 → (inB (It E W j) p o == true) = false := fun j hj => by
        by_cases ji : j = i
        · subst ji; unfold inB; rw [decide_eq_false eq]; rfl
        · exact no j (by omega)
      refine RT.itT rfl (RT.ite (fun z => ?_) (fun z => ?_))
      · rw [bnd_nr, nI_1]
        simp (disch := omega) only [sx_le] at z
        exact hk (_, _, _, _) ⟨no', y1, y2, fun z2 => by omega⟩
      · refine RT.bind (c_pass0 c9 wi cw.2.2 y1 y2 (by have := cw.2.1; omega)) (fun q ⟨_, q2, q3, q4⟩ => ?_)
        rw [bnd_nr, nI_1]
        exact hk (_, _, _, _) ⟨no', q2, q3, fun _ => q4⟩
def mst (k c : Nat) (s : Nat × Int32) : Nat × Int32 := if 0 < k ∧ k < 61 ∧ k < s.1 then (k, nI c) else s
def mbH (E : RE) (U : VT) (i o p : Nat) (s : Nat × Int32) : Nat → Nat × Int32 | 0 => s | h + 1 => if ho U p = h then mbH E U i o p s h else mst (FW E (dropV (mvV U p h)) i o true 61) (100 * p + h) (mbH E U i o p s h)
def mbP (E : RE) (U : VT) (i o : Nat) (s : Nat × Int32) : Nat → Nat × Int32 | 0 => s | p + 1 => mbH E U i o p (mbP E U i o s p) (vh U)
theorem mst_bd {k c : Nat} {s : Nat × Int32} (h : 1 ≤ s.1) : 1 ≤ (mst k c s).1 ∧ (mst k c s).1 ≤ s.1 := by
  unfold mst
  split
  · rename_i z; show 1 ≤ k ∧ k ≤ _; omega
  · omega
theorem mbH_bd {E : RE} {U : VT} {i o p : Nat} {s : Nat × Int32} (h : 1 ≤ s.1) : ∀ n, 1 ≤ (mbH E U i o p s n).1 ∧ (mbH E U i o p s n).1 ≤ s.1
  | 0 => ⟨h, Nat.le_refl _⟩
  | n + 1 => by
    have ih := mbH_bd (E := E) (U := U) (i := i) (o := o) (p := p) h n
    rw [mbH]
    split
    · exact ih
    · have := mst_bd (k := FW E (dropV (mvV U p n)) i o true 61) (c := 100 * p + n) ih.1; omega
theorem mbP_bd {E : RE} {U : VT} {i o : Nat} {s : Nat × Int32} (h : 1 ≤ s.1) : ∀ n, 1 ≤ (mbP E U i o s n).1 ∧ (mbP E U i o s n).1 ≤ s.1
  | 0 => ⟨h, Nat.le_refl _⟩
  | n + 1 => by
    have ih := mbP_bd (E := E) (U := U) (i := i) (o := o) h n
    rw [mbP]
    have := mbH_bd (E := E) (U := U) (i := i) (o := o) (p := n) ih.1 (vh U); omega
theorem WFV_mvd {V : VT} (w : WFV V) {p h : Nat} (hp : p < vn V) (hh : h < vh V) (hn : ho V p ≠ h) : WFV (dropV (mvV V p h)) := WFV_drop (WFP_mv w hp hh hn)
theorem WFV_jnd {V : VT} (w : WFV V) {a b : Nat} (ha : a < vh V) (hb : b < vh V) (hn : a ≠ b) : WFV (dropV (jnV V a b)) := WFV_drop (WFP_jn w ha hb hn)
theorem c_bestMove {E : RE} {U : VT} {v D Rp Rk T K N0 : Ob} {i o : Nat} {s : Nat × Int32} (c : VC N0 U) (cw : CW E U) (h1 : RCo Rp E.1) (h2 : RCo Rk E.2) (hp : i < vn U) (ho9 : o < vn U) (s1 : 1 ≤ s.1) : RT (f_X9_bestMove_L28 (nI i) (nI o) v K N0 FUEL s.2 (nI (min 60 (s.1 - 1))) (nI 0) D Rp Rk T) (fun q => q.1 = (mbP E U i o s (vn U)).2 ∧ RCo q.2.2.1 E.1 ∧ RCo q.2.2.2.1 E.2) := by
  refine RT.cps (fun Q hQ => ?_)
  have b0 := cw.1.1.1
  have b1 := cw.1.hn
  refine RT.loop0 (fun n p (y : Int32 × Int32 × Ob × Ob × Ob × Ob) => f_X9_bestMove_L28 (nI i) (nI o) v K N0 n y.1 y.2.1 (nI p) y.2.2.1 y.2.2.2.1 y.2.2.2.2.1 y.2.2.2.2.2) (vn U) (fun p y => y.1 = (mbP E U i o s p).2 ∧ y.2.1 = nI (min 60 ((mbP E U i o s p).1 - 1)) ∧ RCo y.2.2.2.1 E.1 ∧ RCo y.2.2.2.2.1 E.2) Q (s.2, _, D, Rp, Rk, T) (by omega) ⟨rfl, rfl, h1, h2⟩ ?_ ?_
  · intro n y ⟨y1, y2, y3, y4⟩
    show RT (f_X9_bestMove_L28 (nI i) (nI o) v K N0 (n + 1) y.1 y.2.1 (nI (vn U)) y.2.2.1 y.2.2.2.1 y.2.2.2.2.1 y.2.2.2.2.2) _
    unfold f_X9_bestMove_L28
    exact RT.itT (by rw [c.1.1]; exact nI_le (Nat.le_refl _) (by omega)) (RT.done hQ ⟨y1, y3, y4⟩)
  · intro n p y hp9 ⟨y1, y2, y3, y4⟩ hk
    show RT (f_X9_bestMove_L28 (nI i) (nI o) v K N0 (n + 1) y.1 y.2.1 (nI p) y.2.2.1 y.2.2.2.1 y.2.2.2.2.1 y.2.2.2.2.2) _
    have bd := mbP_bd (E := E) (U := U) (i := i) (o := o) s1 p
    unfold f_X9_bestMove_L28
    refine RT.itF (by rw [c.1.1]; exact nI_ge hp9 (by omega)) ?_
    refine RT.loop0 (fun m h (x : Int32 × Int32 × Ob × Ob × Ob × Ob) => f_X9_bestMove_L40 (f_X9_bestMove_L28 (nI i) (nI o) v K N0 n) (nI i) (nI o) (nI p) v K N0 m x.1 x.2.1 (nI h) x.2.2.1 x.2.2.2.1 x.2.2.2.2.1 x.2.2.2.2.2) (vh U) (fun h x => x.1 = (mbH E U i o p (mbP E U i o s p) h).2 ∧ x.2.1 = nI (min 60 ((mbH E U i o p (mbP E U i o s p) h).1 - 1)) ∧ RCo x.2.2.2.1 E.1 ∧ RCo x.2.2.2.2.1 E.2) Q y (by omega) ⟨y1, y2, y3, y4⟩ ?_ ?_
    · intro m x ⟨x1, x2, x3, x4⟩
      show RT (f_X9_bestMove_L40 (f_X9_bestMove_L28 (nI i) (nI o) v K N0 n) (nI i) (nI o) (nI p) v K N0 (m + 1) x.1 x.2.1 (nI (vh U)) x.2.2.1 x.2.2.2.1 x.2.2.2.2.1 x.2.2.2.2.2) _
      unfold f_X9_bestMove_L40
      refine RT.itT (by rw [c.1.2.1]; exact nI_le (Nat.le_refl _) (by omega)) ?_
      rw [bnd_nr, nI_1]
      exact hk (_, _, _, _, _, _) ⟨x1, x2, x3, x4⟩
    · intro m h ⟨xa, xb, xD, xP, xK, xT⟩ hh ⟨x1, x2, x3, x4⟩ hk2
      show RT (f_X9_bestMove_L40 (f_X9_bestMove_L28 (nI i) (nI o) v K N0 n) (nI i) (nI o) (nI p) v K N0 (m + 1) xa xb (nI h) xD xP xK xT) _
      have bd2 := mbH_bd (E := E) (U := U) (i := i) (o := o) (p := p) bd.1 h
      have nxt : mbH E U i o p (mbP E U i o s p) (h + 1) = (if ho U p = h then mbH E U i o p (mbP E U i o s p) h else mst (FW E (dropV (mvV U p h)) i o true 61) (100 * p + h) (mbH E U i o p (mbP E U i o s p) h)) := rfl
      generalize mbH E U i o p (mbP E U i o s p) h = t at *
      dsimp only at x1 x2 x3 x4
      subst x1 x2
      unfold f_X9_bestMove_L40
      refine RT.itF (by rw [c.1.2.1]; exact nI_ge hh (by omega)) ?_
      refine RT.ite (fun z => ?_) (fun z => ?_)
      · rw [show (0 : Int32) = nI 0 from rfl, sx_le (by omega) (by omega)] at z
        rw [bnd_nr, nI_1]
        have nt : mbH E U i o p (mbP E U i o s p) (h + 1) = t := by
          rw [nxt]; split
          · rfl
          · unfold mst; rw [if_neg (by omega)]
        exact hk2 (t.2, nI (min 60 (t.1 - 1)), _, _, _, _) ⟨by rw [nt], by rw [nt], x3, x4⟩
      · rw [show (0 : Int32) = nI 0 from rfl, sx_le (by omega) (by omega)] at z
        rw [sx_grd (by omega) (by omega), sx_clamp (by omega), c.h p hp9]
        have hb := (cw.1.1.2.1 p hp9).1
        refine RT.ite (fun e => ?_) (fun e => ?_)
        · rw [nI_eq (by omega) (by omega)] at e
          rw [bnd_nr, nI_1]
          exact hk2 (t.2, nI (min 60 (t.1 - 1)), _, _, _, _) ⟨by rw [nxt, if_pos e], by rw [nxt, if_pos e], x3, x4⟩
        · rw [nI_eq (by omega) (by omega)] at e
          rw [if_neg e] at nxt
          refine RT.bind (c_copyFrom c cw.1.1) (fun q hq => ?_)
          refine RT.bind (c_moveTo hq cw.1 hp9 hh e) (fun r hr => ?_)
          have w2 := WFV_mvd cw.1 hp9 hh e
          refine RT.bind (c_untilMet (L := min 60 (t.1 - 1)) hr ⟨w2, cw.2.1, cw.2.2⟩ x3 x4 hp ho9 (by omega)) (fun r ⟨r1, r2, r3⟩ => ?_)
          rw [FW_min (show min 60 (t.1 - 1) + 1 ≤ 61 by omega)] at r1
          have fl := FW_le (E := E) (V0 := dropV (mvV U p h)) (p := i) (o := o) (b := true) (n := 61)
          generalize FW E (dropV (mvV U p h)) i o true 61 = f at *
          by_cases zz : 0 < f ∧ f < 61 ∧ f < t.1
          · rw [if_pos (by omega), show min (min 60 (t.1 - 1) + 1) f = f by omega] at r1
            rw [r1]
            refine RT.itF (by rw [show (0 : Int32) = nI 0 from rfl, sx_le (by omega) (by omega)]; omega) ?_
            simp (disch := omega) only [bnd_nr, li_0, li_1, li_2, li_3, li_4, li_5, li_6, li_7, li_8, li_9, li_10, li_11, li_12, li_13, li_14, li_15, li_16, li_17, li_18, li_19, li_20, li_21, li_22, li_23, li_24, li_25, li_26, li_27, li_28, li_29, li_30, li_31, li_32, li_33, li_34, li_35, li_36, li_37, li_38, li_39, li_40, li_41, li_42, li_43, li_44, li_45, li_46, li_47, li_48, li_49, li_50, li_51, li_52, li_53, li_54, li_55, li_56, li_57, li_58, li_59, li_60, li_61, li_62, li_63, li_64, li_74, li_86, li_87, li_88, li_96, li_97, li_98, li_99, li_100, li_101, li_102, li_103, li_104, li_105, li_107, li_108, li_109, li_110, li_111, li_112, li_114, li_115, li_116, li_117, li_118, li_121, li_122, li_124, li_136, li_148, li_160, li_680, li_200, li_201, li_255, li_700, li_950, li_1000, li_1400, li_3440, li_4096, li_9999, li_10000, li_20000, li_20033, li_20038, li_20124, li_32767, li_65535, li_1103515245, li_12345, li_m, sx_grd, sx_clamp, nI_add, sx_sub, pk_mul, sx_le, sx_lt, sx_eq, sx_eqm, sx_meq, sx_lem, sx_mle, sx_ltm, sx_mlt, sx_addm, sx_shl, sx_bit1, sx_bit0, fa_or, uA_s, uA_n, sA_s, sA_n, sx_uA, sx_uAn, sx_sAs, pk_us, pk_un, if_true, if_false, if_pos, if_neg, ob_some, Nat.add_zero, Nat.add_sub_cancel, eq_self, ne_eq, not_true, not_false_iff, false_or, true_or, or_false, or_true, false_and, true_and, and_false, and_true]
            unfold mst at nxt
            rw [if_pos zz] at nxt
            exact hk2 (nI (100 * p + h), nI (f - 1), _, _, _, _) ⟨by rw [nxt], by rw [nxt, show min 60 ((f, nI (100 * p + h)).1 - 1) = f - 1 from (by show min 60 (f - 1) = f - 1; omega)], r2, r3⟩
          · unfold mst at nxt
            rw [if_neg zz] at nxt
            refine RT.itT ?_ ?_
            · rw [r1]
              split
              · rw [show (0 : Int32) = nI 0 from rfl, sx_le (by omega) (by omega)]; omega
              · decide
            · rw [bnd_nr, nI_1]
              exact hk2 (t.2, nI (min 60 (t.1 - 1)), _, _, _, _) ⟨by rw [nxt], by rw [nxt], r2, r3⟩
theorem c_bestMove0 {E : RE} {U : VT} {v D Rp Rk T K N0 : Ob} {i o : Nat} {r : Int32} (c : VC N0 U) (cw : CW E U) (h1 : RCo Rp E.1) (h2 : RCo Rk E.2) (hp : i < vn U) (ho9 : o < vn U) (hn : ho U i ≠ ho U o) (hr : r = (if FW E U i o true 101 < 101 then nI (FW E U i o true 101) else mO)) : RT (f_X9_bestMove v D Rp Rk T K N0 (nI i) (nI o) r) (fun q => q.1 = (mbP E U i o (if FW E U i o true 61 < 61 then FW E U i o true 61 else 9999, mO) (vn U)).2 ∧ RCo q.2.2.1 E.1 ∧ RCo q.2.2.2.1 E.2) := by
  have e := FW_min (E := E) (V0 := U) (p := i) (o := o) (b := true) (show 61 ≤ 101 by omega)
  have l := FW_le (E := E) (V0 := U) (p := i) (o := o) (b := true) (n := 101)
  have p0 : 0 < FW E U i o true 101 := by
    rcases Nat.eq_zero_or_pos (FW E U i o true 101) with z | z
    · have := fa_first_yes (fun j => inB (It E U j) i o == true) 101 (by show FW E U i o true 101 < 101; omega)
      change (inB (It E U (FW E U i o true 101)) i o == true) = true at this
      rw [z] at this
      unfold inB at this
      simp at this
      exact absurd this hn
    · exact z
  rw [e]
  generalize FW E U i o true 101 = F at *
  unfold f_X9_bestMove
  have key := c_bestMove (s := (if min 61 F < 61 then min 61 F else 9999, mO)) (v := v) (D := D) (Rp := Rp) (Rk := Rk) (T := T) (K := K) c cw h1 h2 hp ho9 (by show 1 ≤ (if min 61 F < 61 then min 61 F else 9999); split <;> omega)
  by_cases z : F < 101
  · rw [if_pos z] at hr
    rw [hr]
    refine RT.itF (show ¬ nI F = mO from by rw [sx_eqm (by omega)]; exact fun t => t) ?_
    rw [bnd_nr, show nI F - (1 : Int32) = nI (F - 1) from sx_sub (b := 1) (by omega), show (if nI (F - 1) < (60 : Int32) then nI (F - 1) else (60 : Int32)) = nI (min 60 ((if min 61 F < 61 then min 61 F else 9999) - 1)) from by
      show (if nI (F - 1) < nI 60 then nI (F - 1) else nI 60) = _
      simp (disch := omega) only [sx_lt]
      split
      · rw [if_pos (by omega)]; exact congrArg nI (by omega)
      · split <;> exact congrArg nI (by omega)]
    exact key
  · rw [if_neg z] at hr
    rw [hr]
    refine RT.itT rfl ?_
    rw [show (60 : Int32) = nI (min 60 ((if min 61 F < 61 then min 61 F else 9999) - 1)) from by rw [if_neg (by omega)]; rfl]
    exact key
theorem m_toMeet0 {M : MS} {E : RE} {V : VT} {i o : Nat} {s : Nat × Int32} (vm : VM M 0 V) (cw : CW E V) (ec : EC E M) (hp : i < vn V) (ho9 : o < vn V) (s1 : 1 ≤ s.1) (s2 : s.1 ≤ 9999) : RT (f_X12_toMeet_L54 (nI i) (nI o) FUEL (nI s.1) s.2 (nI 0) M) (fun q => q.1 = (mbP E (idV V nI) i o s (vn V)).2 ∧ QF M q.2) := by
  refine RT.cps (fun Q hQ => ?_)
  have b0 := cw.1.1.1
  have b1 := cw.1.hn
  refine RT.loop0 (fun n p (y : Int32 × Int32 × MS) => f_X12_toMeet_L54 (nI i) (nI o) n y.1 y.2.1 (nI p) y.2.2) (vn V) (fun p y => y.1 = nI (mbP E (idV V nI) i o s p).1 ∧ y.2.1 = (mbP E (idV V nI) i o s p).2 ∧ QF M y.2.2) Q (nI s.1, s.2, M) (by omega) ⟨rfl, rfl, QF.refl M⟩ ?_ ?_
  · intro n ⟨ya, yb, z⟩ ⟨y1, y2, y3⟩
    show RT (f_X12_toMeet_L54 (nI i) (nI o) (n + 1) ya yb (nI (vn V)) z) _
    have vz := vm.qf cw.1 y3
    unfold f_X12_toMeet_L54
    exact RT.itT (by rw [vz.1]; exact nI_le (Nat.le_refl _) (by omega)) (RT.done hQ ⟨y2, y3⟩)
  · intro n p ⟨ya, yb, z⟩ hp9 ⟨y1, y2, y3⟩ hk
    show RT (f_X12_toMeet_L54 (nI i) (nI o) (n + 1) ya yb (nI p) z) _
    have vz := vm.qf cw.1 y3
    have bd := mbP_bd (E := E) (U := idV V nI) (i := i) (o := o) s1 p
    unfold f_X12_toMeet_L54
    refine RT.itF (by rw [vz.1]; exact nI_ge hp9 (by omega)) ?_
    refine RT.loop0 (fun m h (x : Int32 × Int32 × MS) => f_X12_toMeet_L66 (f_X12_toMeet_L54 (nI i) (nI o) n) (nI i) (nI o) (nI p) m x.1 x.2.1 (nI h) x.2.2) (vh V) (fun h x => x.1 = nI (mbH E (idV V nI) i o p (mbP E (idV V nI) i o s p) h).1 ∧ x.2.1 = (mbH E (idV V nI) i o p (mbP E (idV V nI) i o s p) h).2 ∧ QF M x.2.2) Q (ya, yb, z) (by omega) ⟨y1, y2, y3⟩ ?_ ?_
    · intro m ⟨xa, xb, z⟩ ⟨x1, x2, x3⟩
      show RT (f_X12_toMeet_L66 (f_X12_toMeet_L54 (nI i) (nI o) n) (nI i) (nI o) (nI p) (m + 1) xa xb (nI (vh V)) z) _
      have vz := vm.qf cw.1 x3
      unfold f_X12_toMeet_L66
      have e1 : z.2.2 10 1 = nI (vh V) := vz.n
      simp (disch := omega) only [bnd_nr, li_0, li_1, li_2, li_3, li_4, li_5, li_6, li_7, li_8, li_9, li_10, li_11, li_12, li_13, li_14, li_15, li_16, li_17, li_18, li_19, li_20, li_21, li_22, li_23, li_24, li_25, li_26, li_27, li_28, li_29, li_30, li_31, li_32, li_33, li_34, li_35, li_36, li_37, li_38, li_39, li_40, li_41, li_42, li_43, li_44, li_45, li_46, li_47, li_48, li_49, li_50, li_51, li_52, li_53, li_54, li_55, li_56, li_57, li_58, li_59, li_60, li_61, li_62, li_63, li_64, li_74, li_86, li_87, li_88, li_96, li_97, li_98, li_99, li_100, li_101, li_102, li_103, li_104, li_105, li_107, li_108, li_109, li_110, li_111, li_112, li_114, li_115, li_116, li_117, li_118, li_121, li_122, li_124, li_136, li_148, li_160, li_680, li_200, li_201, li_255, li_700, li_950, li_1000, li_1400, li_3440, li_4096, li_9999, li_10000, li_20000, li_20033, li_20038, li_20124, li_32767, li_65535, li_1103515245, li_12345, li_m, sx_grd, sx_clamp, nI_add, sx_sub, pk_mul, sx_le, sx_lt, sx_eq, sx_eqm, sx_meq, sx_lem, sx_mle, sx_ltm, sx_mlt, sx_addm, sx_shl, sx_bit1, sx_bit0, fa_or, uA_s, uA_n, sA_s, sA_n, sx_uA, sx_uAn, sx_sAs, pk_us, pk_un, if_true, if_false, if_pos, if_neg, ob_some, Nat.add_zero, Nat.add_sub_cancel, eq_self, ne_eq, not_true, not_false_iff, false_or, true_or, or_false, or_true, false_and, true_and, and_false, and_true, e1]
      exact hk (_, _, _) ⟨x1, x2, x3⟩
    · intro m h ⟨xa, xb, z⟩ hh ⟨x1, x2, x3⟩ hk2
      show RT (f_X12_toMeet_L66 (f_X12_toMeet_L54 (nI i) (nI o) n) (nI i) (nI o) (nI p) (m + 1) xa xb (nI h) z) _
      have vz := vm.qf cw.1 x3
      have bd2 := mbH_bd (E := E) (U := idV V nI) (i := i) (o := o) (p := p) bd.1 h
      have nxt : mbH E (idV V nI) i o p (mbP E (idV V nI) i o s p) (h + 1) = (if ho V p = h then mbH E (idV V nI) i o p (mbP E (idV V nI) i o s p) h else mst (FW E (dropV (mvV (idV V nI) p h)) i o true 61) (100 * p + h) (mbH E (idV V nI) i o p (mbP E (idV V nI) i o s p) h)) := rfl
      generalize mbH E (idV V nI) i o p (mbP E (idV V nI) i o s p) h = t at *
      dsimp only at x1 x2 x3
      subst x1 x2
      unfold f_X12_toMeet_L66
      have e1 : z.2.2 10 1 = nI (vh V) := vz.n
      have e2 : z.2.2 10 (2 + p) = nI (ho V p) := vz.h0 p hp9
      have hb := (cw.1.1.2.1 p hp9).1
      simp (disch := omega) only [bnd_nr, li_0, li_1, li_2, li_3, li_4, li_5, li_6, li_7, li_8, li_9, li_10, li_11, li_12, li_13, li_14, li_15, li_16, li_17, li_18, li_19, li_20, li_21, li_22, li_23, li_24, li_25, li_26, li_27, li_28, li_29, li_30, li_31, li_32, li_33, li_34, li_35, li_36, li_37, li_38, li_39, li_40, li_41, li_42, li_43, li_44, li_45, li_46, li_47, li_48, li_49, li_50, li_51, li_52, li_53, li_54, li_55, li_56, li_57, li_58, li_59, li_60, li_61, li_62, li_63, li_64, li_74, li_86, li_87, li_88, li_96, li_97, li_98, li_99, li_100, li_101, li_102, li_103, li_104, li_105, li_107, li_108, li_109, li_110, li_111, li_112, li_114, li_115, li_116, li_117, li_118, li_121, li_122, li_124, li_136, li_148, li_160, li_680, li_200, li_201, li_255, li_700, li_950, li_1000, li_1400, li_3440, li_4096, li_9999, li_10000, li_20000, li_20033, li_20038, li_20124, li_32767, li_65535, li_1103515245, li_12345, li_m, sx_grd, sx_clamp, nI_add, sx_sub, pk_mul, sx_le, sx_lt, sx_eq, sx_eqm, sx_meq, sx_lem, sx_mle, sx_ltm, sx_mlt, sx_addm, sx_shl, sx_bit1, sx_bit0, fa_or, uA_s, uA_n, sA_s, sA_n, sx_uA, sx_uAn, sx_sAs, pk_us, pk_un, if_true, if_false, if_pos, if_neg, ob_some, Nat.add_zero, Nat.add_sub_cancel, eq_self, ne_eq, not_true, not_false_iff, false_or, true_or, or_false, or_true, false_and, true_and, and_false, and_true, e1, e2]
      refine RT.ite (fun e => ?_) (fun e => ?_)
      · exact hk2 (nI t.1, t.2, _) ⟨by rw [nxt, if_pos e], by rw [nxt, if_pos e], x3⟩
      · rw [if_neg e] at nxt
        refine RT.bind (m_tries vz cw.1) (fun q ⟨q1, q2, q3⟩ => ?_)
        have wi := cw.1.idv nI
        have w2 := WFV_mvd wi hp9 hh e
        refine RT.bind (m_moves q3 wi (by omega) hp9 hh e) (fun r hr => ?_)
        have rq := hr.qf
        have rv : VM r 86 (dropV (mvV (idV V nI) p h)) := hr.vm w2.1.1.1 (Nat.le_trans w2.hn w2.1.1.1) q3.1
        have ecr := (ec.qf (x3.trans (q1.qf.trans rq)))
        refine RT.bindE (m_areIn rv w2.1 hp ho9) ?_
        have fl := FW_le (E := E) (V0 := dropV (mvV (idV V nI) p h)) (p := i) (o := o) (b := true) (n := 61)
        by_cases a0 : ho (dropV (mvV (idV V nI) p h)) i = ho (dropV (mvV (idV V nI) p h)) o
        · rw [if_pos a0]
          have f0 : FW E (dropV (mvV (idV V nI) p h)) i o true 61 = 0 := first_is (by omega) (by unfold inB It; rw [decide_eq_true a0]; rfl) (fun j hj => absurd hj (Nat.not_lt_zero _))
          rw [f0] at nxt
          unfold mst at nxt
          rw [if_neg (by omega)] at nxt
          refine RT.itF (by decide) ?_
          exact hk2 (nI t.1, t.2, _) ⟨by rw [nxt], by rw [nxt], x3.trans (q1.qf.trans rq)⟩
        · rw [if_neg a0]
          refine RT.itT rfl ?_
          refine RT.bind (m_whenIn (lim := 60) (b := true) rv w2 ecr cw.2.2 hp ho9 (by omega) (by show ve V + 101 ≤ 20000; have := cw.2.1; omega)) (fun a ⟨a1, a2⟩ => ?_)
          have f0 : 0 < FW E (dropV (mvV (idV V nI) p h)) i o true 61 := by
            rcases Nat.eq_zero_or_pos (FW E (dropV (mvV (idV V nI) p h)) i o true 61) with z | z
            · have := fa_first_yes (fun j => inB (It E (dropV (mvV (idV V nI) p h)) j) i o == true) 61 (by show FW E (dropV (mvV (idV V nI) p h)) i o true 61 < 61; omega)
              change (inB (It E (dropV (mvV (idV V nI) p h)) (FW E (dropV (mvV (idV V nI) p h)) i o true 61)) i o == true) = true at this
              rw [z] at this
              unfold inB at this
              simp only [beq_true, decide_eq_true_eq] at this
              exact absurd this a0
            · exact z
          generalize FW E (dropV (mvV (idV V nI) p h)) i o true 61 = f at *
          rw [a2]
          have qa := x3.trans (q1.qf.trans (rq.trans a1.qf))
          unfold mst at nxt
          by_cases f1 : f < 61
          · rw [if_pos f1]
            simp (disch := omega) only [sx_lt]
            by_cases f2 : f < t.1
            · rw [if_pos ⟨f0, f1, f2⟩] at nxt
              rw [if_pos f2]
              exact hk2 (nI f, nI (100 * p + h), _) ⟨by rw [nxt], by rw [nxt], qa⟩
            · rw [if_neg (by omega)] at nxt
              rw [if_neg f2]
              exact hk2 (nI t.1, t.2, _) ⟨by rw [nxt], by rw [nxt], qa⟩
          · rw [if_neg f1]
            rw [if_neg (by omega)] at nxt
            simp (disch := omega) only [sx_lt]
            rw [if_neg (by omega)]
            exact hk2 (nI t.1, t.2, _) ⟨by rw [nxt], by rw [nxt], qa⟩
