/-! what was seen -/
abbrev SN : Type := Nat × (Nat → Nat) × (Nat → Nat) × (Nat → Nat)
def SOK (S : SN) (n : Nat) : Prop := S.1 ≤ 8 ∧ ∀ k, k < S.1 → S.2.1 k < n ∧ S.2.2.1 k ≤ 20 ∧ S.2.2.2 k ≤ 12
def SCo (o : Ob) (S : SN) : Prop := o.1 0 = nI S.1 ∧ ∀ k, k < S.1 → o.2 1 k = nI (S.2.1 k) ∧ o.2 2 k = nI (S.2.2.1 k) ∧ o.2 3 k = nI (S.2.2.2 k)
def SMo (M : MS) (S : SN) : Prop := M.1 48 = nI S.1 ∧ ∀ k, k < S.1 → M.2.2 20 (3 * k) = nI (S.2.1 k) ∧ M.2.2 20 (3 * k + 1) = nI (S.2.2.1 k) ∧ M.2.2 20 (3 * k + 2) = nI (S.2.2.2 k)
theorem SMo.qf {M r : MS} {S : SN} (h : SMo M S) (q : QF M r) : SMo r S := by
  unfold SMo
  rw [q.1 48 (by decide), q.2.2.1 20 (by omega) (by decide)]
  exact h
def fitB (S : SN) (V : VT) (e k : Nat) : Bool := !decide (S.2.2.1 k = e) || decide (sz V (ho V (S.2.1 k)) = S.2.2.2 k)
def ftB (S : SN) (V : VT) (e : Nat) : Bool := decide (fb_ct (fun k => !fitB S V e k) S.1 = 0)
theorem ftB_iff {S : SN} {V : VT} {e : Nat} : ftB S V e = true ↔ ∀ k, k < S.1 → fitB S V e k = true := by
  unfold ftB
  rw [decide_eq_true_eq, fb_ct_zero]
  exact forall_congr' (fun k => forall_congr' (fun _ => by rw [Bool.not_eq_false']))
theorem ftB_no {S : SN} {V : VT} {e k : Nat} (hk : k < S.1) (h : fitB S V e k = false) : ftB S V e = false := by
  cases z : ftB S V e
  · rfl
  · rw [ftB_iff.mp z k hk] at h; cases h
theorem c_fits {o T : Ob} {S : SN} {V : VT} {e : Nat} (s : SCo o S) (sk : SOK S (vn V)) (c : VC T V) (w : WFP V) (he : e ≤ 100) : f_X8_fits o T (nI e) = some (nI (if ftB S V e then 1 else 0)) := by
  refine RT.eq ?_
  refine RT.cps (fun Q hQ => ?_)
  have b0 := w.1
  unfold f_X8_fits
  refine RT.loop0 (fun n i (_ : Unit) => f_X8_fits_L2 (nI e) o T n (nI i)) S.1 (fun i _ => ∀ k, k < i → fitB S V e k = true) Q () (by have := sk.1; omega) (fun k hk => absurd hk (Nat.not_lt_zero _)) ?_ ?_
  · intro n _ h
    show RT (f_X8_fits_L2 (nI e) o T (n + 1) (nI S.1)) _
    unfold f_X8_fits_L2
    refine RT.itT (by rw [s.1]; exact nI_le (Nat.le_refl _) (by have := sk.1; omega)) (RT.done hQ ?_)
    rw [ftB_iff.mpr h]; rfl
  · intro n i _ hi h hk
    show RT (f_X8_fits_L2 (nI e) o T (n + 1) (nI i)) _
    have s8 := sk.1
    obtain ⟨k1, k2, k3⟩ := sk.2 i hi
    obtain ⟨e1, e2, e3⟩ := s.2 i hi
    have hb := (w.2.1 _ k1).1
    have z6 := c.z _ hb
    have zl := sz_le V (ho V (S.2.1 i))
    unfold f_X8_fits_L2
    refine RT.itF (by rw [s.1]; exact nI_ge hi (by omega)) ?_
    simp (disch := omega) only [bnd_nr, li_0, li_1, li_2, li_3, li_4, li_5, li_6, li_7, li_8, li_9, li_10, li_11, li_12, li_13, li_14, li_15, li_16, li_17, li_18, li_19, li_20, li_21, li_22, li_23, li_24, li_25, li_26, li_27, li_28, li_29, li_30, li_31, li_32, li_33, li_34, li_35, li_36, li_37, li_38, li_39, li_40, li_41, li_42, li_43, li_44, li_45, li_46, li_47, li_48, li_49, li_50, li_51, li_52, li_53, li_54, li_55, li_56, li_57, li_58, li_59, li_60, li_61, li_62, li_63, li_64, li_74, li_86, li_87, li_88, li_96, li_97, li_98, li_99, li_100, li_101, li_102, li_103, li_104, li_105, li_107, li_108, li_109, li_110, li_111, li_112, li_114, li_115, li_116, li_117, li_118, li_121, li_122, li_124, li_136, li_148, li_160, li_680, li_200, li_201, li_255, li_700, li_950, li_1000, li_1400, li_3440, li_4096, li_9999, li_10000, li_20000, li_20033, li_20038, li_20124, li_32767, li_65535, li_1103515245, li_12345, li_m, sx_grd, sx_clamp, nI_add, sx_sub, pk_mul, sx_le, sx_lt, sx_eq, sx_eqm, sx_meq, sx_lem, sx_mle, sx_ltm, sx_mlt, sx_addm, sx_shl, sx_bit1, sx_bit0, fa_or, uA_s, uA_n, sA_s, sA_n, sx_uA, sx_uAn, sx_sAs, pk_us, pk_un, if_true, if_false, if_pos, if_neg, ob_some, Nat.add_zero, Nat.add_sub_cancel, eq_self, ne_eq, not_true, not_false_iff, false_or, true_or, or_false, or_true, false_and, true_and, and_false, and_true, e1, e2, e3, c.h _ k1, z6]
    have nx : ∀ (_ : fitB S V e i = true), RT (f_X8_fits_L2 (nI e) o T n (nI (i + 1))) Q := fun z => hk () (fun k hk2 => by
      by_cases ki : k = i
      · subst ki; exact z
      · exact h k (by omega))
    refine RT.ite (fun z => RT.ite (fun y => nx ?_) (fun y => RT.done hQ ?_)) (fun z => nx ?_)
    · unfold fitB; rw [decide_eq_true y, Bool.or_true]
    · rw [ftB_no hi (by unfold fitB; rw [decide_eq_true z, decide_eq_false y]; rfl)]; rfl
    · unfold fitB; rw [decide_eq_false z]; rfl
def seF (E : RE) (S : SN) (U : VT) (e : Nat) : Bool := ftB S (It E U e) e
def seB (E : RE) (S : SN) (U : VT) : Bool := decide (fb_ct (fun e => !seF E S U e) 21 = 0)
theorem seB_iff {E : RE} {S : SN} {U : VT} : seB E S U = true ↔ ∀ e, e < 21 → seF E S U e = true := by
  unfold seB
  rw [decide_eq_true_eq, fb_ct_zero]
  exact forall_congr' (fun k => forall_congr' (fun _ => by rw [Bool.not_eq_false']))
theorem seB_no {E : RE} {S : SN} {U : VT} {e : Nat} (hk : e < 21) (h : seF E S U e = false) : seB E S U = false := by
  cases z : seB E S U
  · rfl
  · rw [seB_iff.mp z e hk] at h; cases h
theorem mx_ge {f : Nat → Nat} : ∀ {n : Nat} (k : Nat), k < n → f k ≤ mx f n
  | 0, k, h => absurd h (Nat.not_lt_zero _)
  | n + 1, k, h => by
    have e : mx f (n + 1) = if mx f n < f n then f n else mx f n := rfl
    by_cases q : k = n
    · subst q; rw [e]; split <;> omega
    · have := mx_ge (f := f) (n := n) k (by omega)
      rw [e]; split <;> omega
theorem seF_late {E : RE} {S : SN} {U : VT} {e : Nat} (h : mx (fun k => S.2.2.1 k + 1) S.1 ≤ e) : seF E S U e = true := ftB_iff.mpr (fun k hk => by
  have := mx_ge (f := fun k => S.2.2.1 k + 1) k hk
  unfold fitB
  rw [decide_eq_false (by omega)]; rfl)
theorem lm_lt {t a : Nat} (ht : t < 1000000) (ha : a < 1000000) : lm t < nI a ↔ t < a + 1 := by
  unfold lm
  by_cases t0 : t = 0
  · rw [if_pos t0, sx_mlt (by omega)]
    exact ⟨fun _ => by omega, fun _ => trivial⟩
  · rw [if_neg t0, sx_lt (by omega) (by omega)]
    omega
theorem c_last {o : Ob} {S : SN} {n0 : Nat} (s : SCo o S) (sk : SOK S n0) : f_X8_last o = some (lm (mx (fun k => S.2.2.1 k + 1) S.1)) := by
  refine RT.eq ?_
  refine RT.cps (fun Q hQ => ?_)
  have s8 := sk.1
  unfold f_X8_last
  refine RT.loop0 (fun n i (y : Int32) => f_X8_last_L4 o n y (nI i)) S.1 (fun i y => y = lm (mx (fun k => S.2.2.1 k + 1) i)) Q _ (by omega) rfl ?_ ?_
  · intro n y h
    show RT (f_X8_last_L4 o (n + 1) y (nI S.1)) _
    unfold f_X8_last_L4
    exact RT.itT (by rw [s.1]; exact nI_le (Nat.le_refl _) (by omega)) (RT.done hQ h)
  · intro n i y hi h hk
    show RT (f_X8_last_L4 o (n + 1) y (nI i)) _
    obtain ⟨k1, k2, k3⟩ := sk.2 i hi
    obtain ⟨e1, e2, e3⟩ := s.2 i hi
    have ml : mx (fun k => S.2.2.1 k + 1) i ≤ 21 := mx_bd (fun k hk => by have := (sk.2 k (by omega)).2.1; omega)
    have e : mx (fun k => S.2.2.1 k + 1) (i + 1) = if mx (fun k => S.2.2.1 k + 1) i < S.2.2.1 i + 1 then S.2.2.1 i + 1 else mx (fun k => S.2.2.1 k + 1) i := rfl
    generalize mx (fun k => S.2.2.1 k + 1) i = t at *
    unfold f_X8_last_L4
    refine RT.itF (by rw [s.1]; exact nI_ge hi (by omega)) ?_
    rw [sx_grd (by omega) (by omega), sx_clamp (by omega), e2, bnd_nr, bnd_nr, nI_1]
    refine hk _ ?_
    rw [e, h]
    by_cases tl : t < S.2.2.1 i + 1
    · rw [if_pos tl, if_pos ((lm_lt (by omega) (by omega)).mpr tl)]
      rfl
    · rw [if_neg tl, if_neg (fun z => tl ((lm_lt (by omega) (by omega)).mp z))]
theorem c_passesAsSeen {E : RE} {S : SN} {W : VT} {v D Rp Rk T K o : Ob} (c : VC T W) (cw : CW E W) (h1 : RCo Rp E.1) (h2 : RCo Rk E.2) (s : SCo o S) (sk : SOK S (vn W)) : RT (f_X9_passesAsSeen v D Rp Rk T K o) (fun q => q.1 = nI (if seB E S W then 1 else 0) ∧ RCo q.2.2.1 E.1 ∧ RCo q.2.2.2.1 E.2) := by
  refine RT.cps (fun Q hQ => ?_)
  have s8 := sk.1
  unfold f_X9_passesAsSeen
  rw [c_last s sk, ob_some]
  have ml : mx (fun k => S.2.2.1 k + 1) S.1 ≤ 21 := mx_bd (fun k hk => by have := (sk.2 k hk).2.1; omega)
  have lt := fun e => seF_late (E := E) (S := S) (U := W) (e := e)
  generalize mx (fun k => S.2.2.1 k + 1) S.1 = L at *
  refine RT.loop0 (fun n i (y : Ob × Ob × Ob × Ob) => f_X9_passesAsSeen_L7 (lm L) v K o n (nI i) y.1 y.2.1 y.2.2.1 y.2.2.2) L (fun i y => (∀ j, j < i → seF E S W j = true) ∧ RCo y.2.1 E.1 ∧ RCo y.2.2.1 E.2 ∧ (i < L → VC y.2.2.2 (It E W i))) Q (D, Rp, Rk, T) (by omega) ⟨fun j hj => absurd hj (Nat.not_lt_zero _), h1, h2, fun _ => c⟩ ?_ ?_
  · intro n y ⟨al, y1, y2, _⟩
    show RT (f_X9_passesAsSeen_L7 (lm L) v K o (n + 1) (nI L) y.1 y.2.1 y.2.2.1 y.2.2.2) _
    unfold f_X9_passesAsSeen_L7
    refine RT.itT ?_ (RT.done hQ ⟨?_, y1, y2⟩)
    · unfold lm
      by_cases l0 : L = 0
      · rw [if_pos l0, sx_mlt (by omega)]; trivial
      · rw [if_neg l0]; exact nI_lt (by omega) (by omega)
    · rw [seB_iff.mpr (fun e he => by
        rcases Nat.lt_or_ge e L with z | z
        · exact al e z
        · exact lt e z)]
      rfl
  · intro n i y hi ⟨al, y1, y2, y3⟩ hk
    show RT (f_X9_passesAsSeen_L7 (lm L) v K o (n + 1) (nI i) y.1 y.2.1 y.2.2.1 y.2.2.2) _
    have c9 := y3 hi
    obtain ⟨wi, ei, ni⟩ := cw.it (E := E) (i := i) (by omega)
    have el : lm L = nI (L - 1) := by unfold lm; rw [if_neg (by omega)]
    rw [el]
    unfold f_X9_passesAsSeen_L7
    refine RT.itF (nI_nlt (by omega) (by omega)) ?_
    rw [c_fits s (by rw [ni]; exact sk) c9 wi.1 (by omega), ob_some]
    cases eq : ftB S (It E W i) i
    · refine RT.itT rfl (RT.done hQ ⟨?_, y1, y2⟩)
      rw [seB_no (show i < 21 by omega) eq]; rfl
    · have al' : ∀ j, j < i + 1 → seF E S W j = true := fun j hj => by
        by_cases ji : j = i
        · subst ji; exact eq
        · exact al j (by omega)
      refine RT.itF (by decide) (RT.ite (fun z => ?_) (fun z => ?_))
      · rw [bnd_nr, nI_1, ← el]
        simp (disch := omega) only [sx_le] at z
        exact hk (_, _, _, _) ⟨al', y1, y2, fun z2 => by omega⟩
      · refine RT.bind (c_pass0 c9 wi cw.2.2 y1 y2 (by have := cw.2.1; omega)) (fun q ⟨_, q2, q3, q4⟩ => ?_)
        rw [bnd_nr, nI_1, ← el]
        exact hk (_, _, _, _) ⟨al', q2, q3, fun _ => q4⟩
/-- the sizes after five evenings -/
def s5 (E : RE) (W : VT) (p : Nat) : Nat := sz (It E W 5) (ho (It E W 5) p)
def SO5 (M : MS) (E : RE) (W : VT) : Prop := ∀ p, p < vn W → M.2.2 21 p = nI (s5 E W p)
theorem m_isSeen {M : MS} {E : RE} {S : SN} {W : VT} (vm : VM M 86 W) (cw : CW E W) (ec : EC E M) (s : SMo M S) (sk : SOK S (vn W)) : RT (f_X12_isSeen M) (fun q => q.1 = nI (if seB E S W then 1 else 0) ∧ QF M q.2 ∧ q.2.2.2 22 = M.2.2 22 ∧ (seB E S W = true → SO5 q.2 E W)) := by
  refine RT.cps (fun Q hQ => ?_)
  have s8 := sk.1
  have b0 := cw.1.1.1
  unfold f_X12_isSeen
  refine RT.loop0 (fun n i (z : MS) => f_X12_isSeen_L2 n (nI i) z) 21 (fun i z => (∀ j, j < i → seF E S W j = true) ∧ QF M z ∧ z.2.2 22 = M.2.2 22 ∧ VM z 86 (It E W i) ∧ (5 < i → SO5 z E W)) Q M (by omega) ⟨fun j hj => absurd hj (Nat.not_lt_zero _), QF.refl M, rfl, vm, fun h => absurd h (Nat.not_lt_zero _)⟩ ?_ ?_
  · intro n z ⟨al, z1, z2, z3, z4⟩
    show RT (f_X12_isSeen_L2 (n + 1) (nI 21) z) _
    unfold f_X12_isSeen_L2
    refine RT.itT (show nI 20 < nI 21 from by decide) (RT.done hQ ⟨?_, z1, z2, fun _ => z4 (by omega)⟩)
    rw [seB_iff.mpr al]; rfl
  · intro n i z hi ⟨al, z1, z2, z3, z4⟩ hk
    show RT (f_X12_isSeen_L2 (n + 1) (nI i) z) _
    obtain ⟨wi, ei, ni⟩ := cw.it (E := E) (i := i) (by omega)
    have sz9 := s.qf z1
    have ecz := ec.qf z1
    unfold f_X12_isSeen_L2
    refine RT.itF (show ¬ nI 20 < nI i from nI_nlt (by omega) (by omega)) ?_
    refine RT.loop0 (fun m k (_ : Unit) => f_X12_isSeen_L10 (f_X12_isSeen_L2 n) (nI i) z m (nI k)) S.1 (fun k _ => ∀ j, j < k → fitB S (It E W i) i j = true) Q () (by omega) (fun k hk => absurd hk (Nat.not_lt_zero _)) ?_ ?_
    · intro m _ h
      show RT (f_X12_isSeen_L10 (f_X12_isSeen_L2 n) (nI i) z (m + 1) (nI S.1)) _
      have fe : seF E S W i = true := ftB_iff.mpr h
      have al' : ∀ j, j < i + 1 → seF E S W j = true := fun j hj => by
        by_cases ji : j = i
        · subst ji; exact fe
        · exact al j (by omega)
      have go : ∀ x : MS, QF M x → x.2.2 22 = M.2.2 22 → VM x 86 (It E W i) → (5 ≤ i → SO5 x E W) → RT (f_X12_isSeen_J117 (f_X12_isSeen_L2 n) (nI i) x) Q := by
        intro x x1 x2 x3 x4
        unfold f_X12_isSeen_J117
        refine RT.bind (m_ev86 x3 wi (ec.qf x1) cw.2.2 (by have := cw.2.1; omega)) (fun r ⟨r1, r2, r3⟩ => ?_)
        rw [bnd_nr, nI_1]
        refine hk _ ⟨al', x1.trans r1.qf, ?_, r3, fun hi5 p hp => ?_⟩
        · rw [r1.2.2.1 22 (by omega) (by omega) (by omega) (by omega)]; exact x2
        · rw [r1.2.2.1 21 (by omega) (by omega) (by omega) (by omega)]; exact x4 (by omega) p hp
      unfold f_X12_isSeen_L10
      refine RT.itT (by rw [sz9.1]; exact nI_le (Nat.le_refl _) (by omega)) ?_
      refine RT.ite (fun e5 => ?_) (fun e5 => ?_)
      · have i5 : i = 5 := (nI_eq (a := i) (b := 5) (by omega) (by omega)).mp e5
        refine RT.loop0 (fun m p (x : MS) => f_X12_isSeen_L82 (f_X12_isSeen_L2 n) (nI i) m (nI p) x) (vn W) (fun p x => (QF M x ∧ x.2.2 22 = M.2.2 22 ∧ VM x 86 (It E W i)) ∧ ∀ q, q < p → x.2.2 21 q = nI (s5 E W q)) Q z (by omega) ⟨⟨z1, z2, z3⟩, fun q hq => absurd hq (Nat.not_lt_zero _)⟩ ?_ ?_
        · intro m x ⟨⟨x1, x2, x3⟩, x4⟩
          show RT (f_X12_isSeen_L82 (f_X12_isSeen_L2 n) (nI i) (m + 1) (nI (vn W)) x) _
          unfold f_X12_isSeen_L82
          exact RT.itT (by rw [x3.1, ni]; exact nI_le (Nat.le_refl _) (by omega)) (go x x1 x2 x3 (fun _ => x4))
        · intro m p x hp ⟨⟨x1, x2, x3⟩, x4⟩ hk2
          show RT (f_X12_isSeen_L82 (f_X12_isSeen_L2 n) (nI i) (m + 1) (nI p) x) _
          have hb := (wi.1.2.1 p (by omega)).1
          have e1 := x3.h8 p (by omega)
          unfold f_X12_isSeen_L82
          refine RT.itF (by rw [x3.1, ni]; exact nI_ge hp (by omega)) ?_
          simp (disch := omega) only [bnd_nr, li_0, li_1, li_2, li_3, li_4, li_5, li_6, li_7, li_8, li_9, li_10, li_11, li_12, li_13, li_14, li_15, li_16, li_17, li_18, li_19, li_20, li_21, li_22, li_23, li_24, li_25, li_26, li_27, li_28, li_29, li_30, li_31, li_32, li_33, li_34, li_35, li_36, li_37, li_38, li_39, li_40, li_41, li_42, li_43, li_44, li_45, li_46, li_47, li_48, li_49, li_50, li_51, li_52, li_53, li_54, li_55, li_56, li_57, li_58, li_59, li_60, li_61, li_62, li_63, li_64, li_74, li_86, li_87, li_88, li_96, li_97, li_98, li_99, li_100, li_101, li_102, li_103, li_104, li_105, li_107, li_108, li_109, li_110, li_111, li_112, li_114, li_115, li_116, li_117, li_118, li_121, li_122, li_124, li_136, li_148, li_160, li_680, li_200, li_201, li_255, li_700, li_950, li_1000, li_1400, li_3440, li_4096, li_9999, li_10000, li_20000, li_20033, li_20038, li_20124, li_32767, li_65535, li_1103515245, li_12345, li_m, sx_grd, sx_clamp, nI_add, sx_sub, pk_mul, sx_le, sx_lt, sx_eq, sx_eqm, sx_meq, sx_lem, sx_mle, sx_ltm, sx_mlt, sx_addm, sx_shl, sx_bit1, sx_bit0, fa_or, uA_s, uA_n, sA_s, sA_n, sx_uA, sx_uAn, sx_sAs, pk_us, pk_un, if_true, if_false, if_pos, if_neg, ob_some, Nat.add_zero, Nat.add_sub_cancel, eq_self, ne_eq, not_true, not_false_iff, false_or, true_or, or_false, or_true, false_and, true_and, and_false, and_true, e1]
          refine RT.bindE (m_sizeOf x3 wi.1 (by omega) (h := ho (It E W i) p) (by have := wi.1.1; omega)) ?_
          refine hk2 _ ⟨⟨⟨x1.1, x1.2.1, fun j h1 h2 => ?_, fun j hj => ?_⟩, ?_, VM_of rfl ?_ x3⟩, fun q hq => ?_⟩
          · have := scA_ne h2
            simp only [uA_n (show j ≠ 21 by omega)]; exact x1.2.2.1 j h1 h2
          · simp only [uA_n (show 10 ≠ 21 by omega)]; exact x1.2.2.2 j hj
          · simp only [uA_n (show 22 ≠ 21 by omega)]; exact x2
          · simp only [uA_n (show 10 ≠ 21 by omega)]
          · simp only [uA_s]
            by_cases qp : q = p
            · subst qp; rw [pk_us]; unfold s5; rw [i5]
            · rw [pk_un qp]; exact x4 q (by omega)
      · have i5 : i ≠ 5 := fun h => e5 ((nI_eq (a := i) (b := 5) (by omega) (by omega)).mpr h)
        exact go z z1 z2 z3 (fun h5 => z4 (by omega))
    · intro m k _ hk9 h hk2
      show RT (f_X12_isSeen_L10 (f_X12_isSeen_L2 n) (nI i) z (m + 1) (nI k)) _
      obtain ⟨k1, k2, k3⟩ := sk.2 k hk9
      obtain ⟨e1, e2, e3⟩ := sz9.2 k hk9
      have hb := (wi.1.2.1 (S.2.1 k) (by omega)).1
      have e4 := z3.h8 (S.2.1 k) (by omega)
      have zl := sz_le (It E W i) (ho (It E W i) (S.2.1 k))
      have b9 := wi.1.1
      unfold f_X12_isSeen_L10
      refine RT.itF (by rw [sz9.1]; exact nI_ge hk9 (by omega)) ?_
      simp (disch := omega) only [bnd_nr, li_0, li_1, li_2, li_3, li_4, li_5, li_6, li_7, li_8, li_9, li_10, li_11, li_12, li_13, li_14, li_15, li_16, li_17, li_18, li_19, li_20, li_21, li_22, li_23, li_24, li_25, li_26, li_27, li_28, li_29, li_30, li_31, li_32, li_33, li_34, li_35, li_36, li_37, li_38, li_39, li_40, li_41, li_42, li_43, li_44, li_45, li_46, li_47, li_48, li_49, li_50, li_51, li_52, li_53, li_54, li_55, li_56, li_57, li_58, li_59, li_60, li_61, li_62, li_63, li_64, li_74, li_86, li_87, li_88, li_96, li_97, li_98, li_99, li_100, li_101, li_102, li_103, li_104, li_105, li_107, li_108, li_109, li_110, li_111, li_112, li_114, li_115, li_116, li_117, li_118, li_121, li_122, li_124, li_136, li_148, li_160, li_680, li_200, li_201, li_255, li_700, li_950, li_1000, li_1400, li_3440, li_4096, li_9999, li_10000, li_20000, li_20033, li_20038, li_20124, li_32767, li_65535, li_1103515245, li_12345, li_m, sx_grd, sx_clamp, nI_add, sx_sub, pk_mul, sx_le, sx_lt, sx_eq, sx_eqm, sx_meq, sx_lem, sx_mle, sx_ltm, sx_mlt, sx_addm, sx_shl, sx_bit1, sx_bit0, fa_or, uA_s, uA_n, sA_s, sA_n, sx_uA, sx_uAn, sx_sAs, pk_us, pk_un, if_true, if_false, if_pos, if_neg, ob_some, Nat.add_zero, Nat.add_sub_cancel, eq_self, ne_eq, not_true, not_false_iff, false_or, true_or, or_false, or_true, false_and, true_and, and_false, and_true, e1, e2, e3, e4, m_sizeOf (b := 86) z3 wi.1 (by omega)]
      have nx : ∀ (_ : fitB S (It E W i) i k = true), RT (f_X12_isSeen_L10 (f_X12_isSeen_L2 n) (nI i) z m (nI (k + 1))) Q := fun z => hk2 () (fun j hj => by
        by_cases ki : j = k
        · subst ki; exact z
        · exact h j (by omega))
      refine RT.ite (fun z => RT.ite (fun y => nx ?_) (fun y => RT.done hQ ⟨?_, z1, z2, fun z9 => ?_⟩)) (fun z => nx ?_)
      · unfold fitB; rw [decide_eq_true y, Bool.or_true]
      · rw [seB_no hi (ftB_no hk9 (by unfold fitB; rw [decide_eq_true z, decide_eq_false y]; rfl))]; rfl
      · rw [seB_no hi (ftB_no hk9 (by unfold fitB; rw [decide_eq_true z, decide_eq_false y]; rfl))] at z9; cases z9
      · unfold fitB; rw [decide_eq_false z]; rfl
