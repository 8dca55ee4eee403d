/-! ahead -/
def og (E : RE) (V0 : VT) (i p : Nat) : Nat := fb_ct (fun t => gN E (It E V0 t) p) i
theorem mv_it {E : RE} {V0 : VT} {p : Nat} : ∀ i, mv (It E V0 i) p = mv V0 p + nI (og E V0 i p)
  | 0 => (Int32.add_zero _).symm
  | i + 1 => by
    have ih := mv_it (E := E) (V0 := V0) (p := p) i
    show (if gN E (It E V0 i) p then mv (It E V0 i) p + 1 else mv (It E V0 i) p) = _
    unfold og at ih ⊢
    rw [fb_ct_succ, ih]
    cases gN E (It E V0 i) p
    · rfl
    · rw [if_pos rfl, if_pos rfl, ← nI_add, ← Int32.add_assoc]; rfl
/-- the first with the most above 0 -/
def RSL (f : Nat → Nat) (n : Nat) (r : Int32) : Prop := (r = mO ∧ ∀ p, p < n → f p = 0) ∨ ∃ p, p < n ∧ r = nI p ∧ 0 < f p ∧ (∀ q, q < n → f q ≤ f p) ∧ ∀ q, q < p → f q < f p
theorem RSL_one {f : Nat → Nat} {n : Nat} {r s : Int32} (a : RSL f n r) (b : RSL f n s) : r = s := by
  rcases a with ⟨a1, a2⟩ | ⟨p, p1, p2, p3, p4, p5⟩
  · rcases b with ⟨b1, b2⟩ | ⟨q, q1, q2, q3, q4, q5⟩
    · rw [a1, b1]
    · have := a2 q q1; omega
  · rcases b with ⟨b1, b2⟩ | ⟨q, q1, q2, q3, q4, q5⟩
    · have := b2 p p1; omega
    · rw [p2, q2]
      congr 1
      rcases Nat.lt_trichotomy p q with z | z | z
      · have := q5 p z; have := p4 q q1; omega
      · exact z
      · have := p5 q z; have := q4 p p1; omega
theorem RSL_step {f : Nat → Nat} {i : Nat} {r : Int32} (h : RSL f i r) (d : (r = mO ∧ 0 < f i) ∨ ∃ p, r = nI p ∧ p < i ∧ f p < f i) (hi : i < 2147483648) : RSL f (i + 1) (nI i) := by
  refine Or.inr ⟨i, by omega, rfl, ?_, fun q hq => ?_, fun q hq => ?_⟩
  · rcases d with ⟨_, z⟩ | ⟨p, _, _, z⟩ <;> omega
  · by_cases qi : q = i
    · subst qi; exact Nat.le_refl _
    · rcases h with ⟨h1, h2⟩ | ⟨p, p1, p2, p3, p4, p5⟩
      · have := h2 q (by omega); omega
      · have := p4 q (by omega)
        rcases d with ⟨z, _⟩ | ⟨s, s1, s2, s3⟩
        · rw [p2, sx_eqm (by omega)] at z; exact z.elim
        · rw [p2, nI_eq (by omega) (by omega)] at s1
          subst s1; omega
  · rcases h with ⟨h1, h2⟩ | ⟨p, p1, p2, p3, p4, p5⟩
    · have := h2 q hq
      rcases d with ⟨_, z⟩ | ⟨s, s1, s2, s3⟩
      · omega
      · omega
    · have := p4 q hq
      rcases d with ⟨z, _⟩ | ⟨s, s1, s2, s3⟩
      · rw [p2, sx_eqm (by omega)] at z; exact z.elim
      · rw [p2, nI_eq (by omega) (by omega)] at s1
        subst s1; omega
theorem RSL_stay {f : Nat → Nat} {i : Nat} {r : Int32} (h : RSL f i r) (d : (r = mO ∧ f i = 0) ∨ ∃ p, r = nI p ∧ p < i ∧ f i ≤ f p) (hi : i < 2147483648) : RSL f (i + 1) r := by
  rcases h with ⟨h1, h2⟩ | ⟨p, p1, p2, p3, p4, p5⟩
  · refine Or.inl ⟨h1, fun q hq => ?_⟩
    by_cases qi : q = i
    · subst qi
      rcases d with ⟨_, z⟩ | ⟨p, z, z2, _⟩
      · exact z
      · rw [h1, sx_meq (by omega)] at z; exact z.elim
    · exact h2 q (by omega)
  · refine Or.inr ⟨p, by omega, p2, p3, fun q hq => ?_, p5⟩
    by_cases qi : q = i
    · subst qi
      rcases d with ⟨z, _⟩ | ⟨s, s1, s2, s3⟩
      · rw [p2, sx_eqm (by omega)] at z; exact z.elim
      · rw [p2, nI_eq (by omega) (by omega)] at s1
        subst s1; exact s3
    · exact p4 q (by omega)
theorem og_le (E : RE) (V0 : VT) (i p : Nat) : og E V0 i p ≤ i := fb_ct_le _ _
theorem c_mostRestless {E : RE} {V0 : VT} {cs : CS} {D Rp Rk K : Ob} {fs : FS} {m e : Nat} (c : WC E V0 m cs Rp Rk fs) (cw : CW E V0) (he : e ≤ 100) : RT (f_X1_mostRestless cs D Rp Rk K fs (max m (e + 1)) (nI e)) (fun q => RSL (og E V0 e) (vn V0) q.1 ∧ WC E V0 (max m (e + 1)) q.2.1 q.2.2.2.1 q.2.2.2.2.1 q.2.2.2.2.2) := by
  refine RT.cps (fun Q hQ => ?_)
  obtain ⟨⟨rd, wc1⟩, wc2, wc3⟩ := c
  have m1 : 1 ≤ m := wc1.1.2.1
  have cnt : fs.1 = m := wc1.1.1
  have b0 := cw.1.1.1
  obtain ⟨wi, ei, ni⟩ := cw.it (E := E) (i := e) (by omega)
  unfold f_X1_mostRestless
  rw [sx_clamp (by omega)]
  refine RT.bind (c_behind wc1 cw.1 cw.2.1 cw.2.2 wc2 wc3 (show e ≤ 200 by omega) (by rw [cnt])) (fun q ⟨q1, q2, q3, q4, q5, q6⟩ => ?_)
  have cnt2 : q.2.2.2.2.2.1 = max m (e + 1) := q2.1.1
  refine RT.grd (decide_eq_true ⟨by omega, by rw [cnt2, cnt], by omega⟩) ?_
  rw [q1]
  have v0 := q2.2.2.2.1 0 (by omega)
  have wc' : WC E V0 (max m (e + 1)) q.2.1 q.2.2.2.1 q.2.2.2.2.1 q.2.2.2.2.2 := ⟨⟨_, q2⟩, q3, q4⟩
  refine RT.loop0_2 (fun n p (l3 l4 : Int32) => f_X1_mostRestless_L14 (max m (e + 1)) e q.2.1 q.2.2.1 q.2.2.2.1 q.2.2.2.2.1 K q.2.2.2.2.2 n l3 l4 (nI p)) (vn V0) (fun p l3 l4 => RSL (og E V0 e) p l3 ∧ l4 = nI (if l3 = mO then 0 else og E V0 e l3.toNatClampNeg)) Q _ _ (by omega) ⟨Or.inl ⟨rfl, fun p hp => absurd hp (Nat.not_lt_zero _)⟩, rfl⟩ ?_ ?_
  · intro n l3 l4 ⟨h1, h2⟩
    show RT (f_X1_mostRestless_L14 (max m (e + 1)) e q.2.1 q.2.2.1 q.2.2.2.1 q.2.2.2.2.1 K q.2.2.2.2.2 (n + 1) l3 l4 (nI (vn V0))) _
    unfold f_X1_mostRestless_L14
    exact RT.grd (decide_eq_true (by omega)) (RT.itT (by rw [q6.1.1, ni]; exact nI_le (Nat.le_refl _) (by omega)) (RT.done hQ ⟨h1, wc'⟩))
  · intro n p l3 l4 hp ⟨h1, h2⟩ hk
    show RT (f_X1_mostRestless_L14 (max m (e + 1)) e q.2.1 q.2.2.1 q.2.2.2.1 q.2.2.2.2.1 K q.2.2.2.2.2 (n + 1) l3 l4 (nI p)) _
    have o1 := og_le E V0 e p
    have dif : (q.2.2.2.2.2.2.2 e).2 5 p - (q.2.2.2.2.2.2.2 0).2 5 p = nI (og E V0 e p) := by
      rw [q6.m p (by omega), v0.m p hp]
      show mv (It E V0 e) p - mv V0 p = _
      rw [mv_it, Int32.add_comm, Int32.add_sub_cancel]
    unfold f_X1_mostRestless_L14
    refine RT.grd (decide_eq_true (by omega)) (RT.itF (by rw [q6.1.1, ni]; exact nI_ge hp (by omega)) ?_)
    rw [grd_d (by omega), grd_d (by omega), sx_grd (by omega) (by omega), grd_d (by omega), grd_d (by omega), sx_grd (by omega) (by omega), sx_clamp (by omega), dif, bnd_nr, bnd_nr, bnd_nr, nI_1, h2]
    rcases (show (l3 = mO) ∨ ∃ s, s < p ∧ l3 = nI s from by
      rcases h1 with ⟨a, _⟩ | ⟨s, s1, s2, _⟩
      · exact Or.inl a
      · exact Or.inr ⟨s, s1, s2⟩) with z | ⟨s, s1, s2⟩
    · rw [if_pos z]
      simp (disch := omega) only [sx_le]
      refine RT.ite (fun d => hk _ _ ⟨RSL_stay h1 (Or.inl ⟨z, by omega⟩) (by omega), by rw [if_pos z]⟩) (fun d => hk _ _ ⟨RSL_step h1 (Or.inl ⟨z, by omega⟩) (by omega), ?_⟩)
      rw [if_neg (by rw [sx_eqm (by omega)]; exact fun t => t), sx_clamp (by omega)]
    · have o2 := og_le E V0 e s
      have nz : ¬ l3 = mO := by rw [s2, sx_eqm (by omega)]; exact fun t => t
      rw [if_neg nz]
      rw [s2, sx_clamp (by omega)]
      simp (disch := omega) only [sx_le]
      rw [s2] at h1 nz
      refine RT.ite (fun d => hk _ _ ⟨RSL_stay h1 (Or.inr ⟨s, rfl, s1, d⟩) (by omega), by rw [if_neg nz, sx_clamp (by omega)]⟩) (fun d => hk _ _ ⟨RSL_step h1 (Or.inr ⟨s, rfl, s1, by omega⟩) (by omega), ?_⟩)
      rw [if_neg (by rw [sx_eqm (by omega)]; exact fun t => t), sx_clamp (by omega)]
/-- the first who has lived there longest -/
def STD (V : VT) (n : Nat) (r : Int32) : Prop := (r = mO ∧ n = 0) ∨ ∃ p, p < n ∧ r = nI p ∧ (∀ q, q < n → si V q ≤ si V p) ∧ ∀ q, q < p → si V q < si V p
theorem STD_one {V : VT} {n : Nat} {r s : Int32} (a : STD V n r) (b : STD V n s) : r = s := by
  rcases a with ⟨a1, a2⟩ | ⟨p, p1, p2, p4, p5⟩
  · rcases b with ⟨b1, b2⟩ | ⟨q, q1, _⟩
    · rw [a1, b1]
    · omega
  · rcases b with ⟨b1, b2⟩ | ⟨q, q1, q2, q4, q5⟩
    · omega
    · rw [p2, q2]
      congr 1
      rcases Nat.lt_trichotomy p q with z | z | z
      · have := q5 p z; have := p4 q q1; omega
      · exact z
      · have := p5 q z; have := q4 p p1; omega
theorem STD_step {V : VT} {i : Nat} {r : Int32} (h : STD V i r) (d : i = 0 ∨ ∃ p, r = nI p ∧ p < i ∧ si V p < si V i) (hi : i < 2147483648) : STD V (i + 1) (nI i) := by
  refine Or.inr ⟨i, by omega, rfl, fun q hq => ?_, fun q hq => ?_⟩
  · by_cases qi : q = i
    · subst qi; exact Nat.le_refl _
    · rcases h with ⟨h1, h2⟩ | ⟨p, p1, p2, p4, p5⟩
      · omega
      · have := p4 q (by omega)
        rcases d with z | ⟨s, s1, s2, s3⟩
        · omega
        · rw [p2, nI_eq (by omega) (by omega)] at s1
          subst s1; omega
  · rcases h with ⟨h1, h2⟩ | ⟨p, p1, p2, p4, p5⟩
    · omega
    · have := p4 q hq
      rcases d with z | ⟨s, s1, s2, s3⟩
      · omega
      · rw [p2, nI_eq (by omega) (by omega)] at s1
        subst s1; omega
theorem STD_stay {V : VT} {i : Nat} {r : Int32} (h : STD V i r) {p : Nat} (e : r = nI p) (hp : p < i) (d : si V i ≤ si V p) (hi : i < 2147483648) : STD V (i + 1) r := by
  rcases h with ⟨h1, h2⟩ | ⟨s, s1, s2, s4, s5⟩
  · omega
  · rw [s2, nI_eq (by omega) (by omega)] at e
    subst e
    refine Or.inr ⟨s, by omega, s2, fun q hq => ?_, s5⟩
    by_cases qi : q = i
    · subst qi; exact d
    · exact s4 q (by omega)
theorem c_steadiest {v : Ob} {V : VT} (c : VC v V) (w : WFP V) : RT (f_X10_steadiest v) (STD V (vn V)) := by
  have b0 := w.1
  refine RT.cps (fun Q hQ => ?_)
  unfold f_X10_steadiest
  refine RT.loop0 (fun n i (l1 : Int32) => f_X10_steadiest_L4 v n l1 (nI i)) (vn V) (fun i l1 => STD V i l1) Q _ (by omega) (Or.inl ⟨rfl, rfl⟩) ?_ ?_
  · intro n l1 h
    show RT (f_X10_steadiest_L4 v (n + 1) l1 (nI (vn V))) _
    unfold f_X10_steadiest_L4
    simp (disch := omega) only [bnd_nr, li_0, li_1, li_2, li_3, li_4, li_5, li_6, li_7, li_8, li_9, li_10, li_11, li_12, li_13, li_14, li_15, li_16, li_17, li_18, li_19, li_20, li_21, li_22, li_23, li_24, li_25, li_26, li_27, li_28, li_29, li_30, li_31, li_32, li_33, li_34, li_35, li_36, li_37, li_38, li_39, li_40, li_41, li_42, li_43, li_44, li_45, li_46, li_47, li_48, li_49, li_50, li_51, li_52, li_53, li_54, li_55, li_56, li_57, li_58, li_59, li_60, li_61, li_62, li_63, li_64, li_74, li_86, li_87, li_88, li_96, li_97, li_98, li_99, li_100, li_101, li_102, li_103, li_104, li_105, li_107, li_108, li_109, li_110, li_111, li_112, li_114, li_115, li_116, li_117, li_118, li_121, li_122, li_124, li_136, li_148, li_160, li_680, li_200, li_201, li_255, li_700, li_950, li_1000, li_1400, li_3440, li_4096, li_9999, li_10000, li_20000, li_20033, li_20038, li_20124, li_32767, li_65535, li_1103515245, li_12345, li_m, sx_grd, sx_clamp, nI_add, sx_sub, pk_mul, sx_le, sx_lt, sx_eq, sx_eqm, sx_meq, sx_lem, sx_mle, sx_ltm, sx_mlt, sx_addm, sx_shl, sx_bit1, sx_bit0, fa_or, uA_s, uA_n, sA_s, sA_n, sx_uA, sx_uAn, sx_sAs, pk_us, pk_un, if_true, if_false, if_pos, if_neg, ob_some, Nat.add_zero, Nat.add_sub_cancel, eq_self, ne_eq, not_true, not_false_iff, false_or, true_or, or_false, or_true, false_and, true_and, and_false, and_true, c.1.1]
    exact RT.done hQ h
  · intro n i l1 hi h hk
    show RT (f_X10_steadiest_L4 v (n + 1) l1 (nI i)) _
    have b1 := w.2.1 i hi
    unfold f_X10_steadiest_L4
    rcases (show (l1 = mO ∧ i = 0) ∨ ∃ s, s < i ∧ l1 = nI s from by
      rcases h with ⟨a, b⟩ | ⟨s, s1, s2, _⟩
      · exact Or.inl ⟨a, b⟩
      · exact Or.inr ⟨s, s1, s2⟩) with ⟨z1, z2⟩ | ⟨s, s1, s2⟩
    · subst z1
      simp (disch := omega) only [bnd_nr, li_0, li_1, li_2, li_3, li_4, li_5, li_6, li_7, li_8, li_9, li_10, li_11, li_12, li_13, li_14, li_15, li_16, li_17, li_18, li_19, li_20, li_21, li_22, li_23, li_24, li_25, li_26, li_27, li_28, li_29, li_30, li_31, li_32, li_33, li_34, li_35, li_36, li_37, li_38, li_39, li_40, li_41, li_42, li_43, li_44, li_45, li_46, li_47, li_48, li_49, li_50, li_51, li_52, li_53, li_54, li_55, li_56, li_57, li_58, li_59, li_60, li_61, li_62, li_63, li_64, li_74, li_86, li_87, li_88, li_96, li_97, li_98, li_99, li_100, li_101, li_102, li_103, li_104, li_105, li_107, li_108, li_109, li_110, li_111, li_112, li_114, li_115, li_116, li_117, li_118, li_121, li_122, li_124, li_136, li_148, li_160, li_680, li_200, li_201, li_255, li_700, li_950, li_1000, li_1400, li_3440, li_4096, li_9999, li_10000, li_20000, li_20033, li_20038, li_20124, li_32767, li_65535, li_1103515245, li_12345, li_m, sx_grd, sx_clamp, nI_add, sx_sub, pk_mul, sx_le, sx_lt, sx_eq, sx_eqm, sx_meq, sx_lem, sx_mle, sx_ltm, sx_mlt, sx_addm, sx_shl, sx_bit1, sx_bit0, fa_or, uA_s, uA_n, sA_s, sA_n, sx_uA, sx_uAn, sx_sAs, pk_us, pk_un, if_true, if_false, if_pos, if_neg, ob_some, Nat.add_zero, Nat.add_sub_cancel, eq_self, ne_eq, not_true, not_false_iff, false_or, true_or, or_false, or_true, false_and, true_and, and_false, and_true, c.1.1]
      exact hk _ (STD_step h (Or.inl z2) (by omega))
    · have b2 := w.2.1 s (by omega)
      subst s2
      simp (disch := omega) only [bnd_nr, li_0, li_1, li_2, li_3, li_4, li_5, li_6, li_7, li_8, li_9, li_10, li_11, li_12, li_13, li_14, li_15, li_16, li_17, li_18, li_19, li_20, li_21, li_22, li_23, li_24, li_25, li_26, li_27, li_28, li_29, li_30, li_31, li_32, li_33, li_34, li_35, li_36, li_37, li_38, li_39, li_40, li_41, li_42, li_43, li_44, li_45, li_46, li_47, li_48, li_49, li_50, li_51, li_52, li_53, li_54, li_55, li_56, li_57, li_58, li_59, li_60, li_61, li_62, li_63, li_64, li_74, li_86, li_87, li_88, li_96, li_97, li_98, li_99, li_100, li_101, li_102, li_103, li_104, li_105, li_107, li_108, li_109, li_110, li_111, li_112, li_114, li_115, li_116, li_117, li_118, li_121, li_122, li_124, li_136, li_148, li_160, li_680, li_200, li_201, li_255, li_700, li_950, li_1000, li_1400, li_3440, li_4096, li_9999, li_10000, li_20000, li_20033, li_20038, li_20124, li_32767, li_65535, li_1103515245, li_12345, li_m, sx_grd, sx_clamp, nI_add, sx_sub, pk_mul, sx_le, sx_lt, sx_eq, sx_eqm, sx_meq, sx_lem, sx_mle, sx_ltm, sx_mlt, sx_addm, sx_shl, sx_bit1, sx_bit0, fa_or, uA_s, uA_n, sA_s, sA_n, sx_uA, sx_uAn, sx_sAs, pk_us, pk_un, if_true, if_false, if_pos, if_neg, ob_some, Nat.add_zero, Nat.add_sub_cancel, eq_self, ne_eq, not_true, not_false_iff, false_or, true_or, or_false, or_true, false_and, true_and, and_false, and_true, c.1.1, c.c i hi, c.c s (by omega)]
      refine RT.ite (fun d => hk _ (STD_stay h rfl s1 (by omega) (by omega))) (fun d => hk _ (STD_step h (Or.inr ⟨s, rfl, s1, by omega⟩) (by omega)))
def OLD_ (V : VT) : Int32 := if vh V = 0 then mO else nI (mx (ol V) (vh V))
theorem mx_one {f : Nat → Nat} : ∀ {i : Nat}, (if mx f i < f i then f i else mx f i) = mx f (i + 1) := rfl
theorem c_oldest {v : Ob} {V : VT} (c : VC v V) (w : WFP V) : f_X10_oldest v = some (OLD_ V) := by
  have b0 := w.1
  refine RT.eq ?_
  refine RT.cps (fun Q hQ => ?_)
  unfold f_X10_oldest
  refine RT.loop0 (fun n i (l1 : Int32) => f_X10_oldest_L4 v n l1 (nI i)) (vh V) (fun i l1 => l1 = if i = 0 then mO else nI (mx (ol V) i)) Q _ (by omega) rfl ?_ ?_
  · intro n l1 h
    show RT (f_X10_oldest_L4 v (n + 1) l1 (nI (vh V))) _
    unfold f_X10_oldest_L4
    simp (disch := omega) only [bnd_nr, li_0, li_1, li_2, li_3, li_4, li_5, li_6, li_7, li_8, li_9, li_10, li_11, li_12, li_13, li_14, li_15, li_16, li_17, li_18, li_19, li_20, li_21, li_22, li_23, li_24, li_25, li_26, li_27, li_28, li_29, li_30, li_31, li_32, li_33, li_34, li_35, li_36, li_37, li_38, li_39, li_40, li_41, li_42, li_43, li_44, li_45, li_46, li_47, li_48, li_49, li_50, li_51, li_52, li_53, li_54, li_55, li_56, li_57, li_58, li_59, li_60, li_61, li_62, li_63, li_64, li_74, li_86, li_87, li_88, li_96, li_97, li_98, li_99, li_100, li_101, li_102, li_103, li_104, li_105, li_107, li_108, li_109, li_110, li_111, li_112, li_114, li_115, li_116, li_117, li_118, li_121, li_122, li_124, li_136, li_148, li_160, li_680, li_200, li_201, li_255, li_700, li_950, li_1000, li_1400, li_3440, li_4096, li_9999, li_10000, li_20000, li_20033, li_20038, li_20124, li_32767, li_65535, li_1103515245, li_12345, li_m, sx_grd, sx_clamp, nI_add, sx_sub, pk_mul, sx_le, sx_lt, sx_eq, sx_eqm, sx_meq, sx_lem, sx_mle, sx_ltm, sx_mlt, sx_addm, sx_shl, sx_bit1, sx_bit0, fa_or, uA_s, uA_n, sA_s, sA_n, sx_uA, sx_uAn, sx_sAs, pk_us, pk_un, if_true, if_false, if_pos, if_neg, ob_some, Nat.add_zero, Nat.add_sub_cancel, eq_self, ne_eq, not_true, not_false_iff, false_or, true_or, or_false, or_true, false_and, true_and, and_false, and_true, c.1.2.1]
    exact RT.done hQ h
  · intro n i l1 hi h hk
    show RT (f_X10_oldest_L4 v (n + 1) l1 (nI i)) _
    have o1 := w.2.2.2 i hi
    have m1 := mx_bd (f := ol V) (c := 20000) (n := i) (fun k hk9 => by have := w.2.2.2 k (by omega); omega)
    unfold f_X10_oldest_L4
    by_cases i0 : i = 0
    · subst i0
      rw [if_pos rfl] at h
      subst h
      simp (disch := omega) only [bnd_nr, li_0, li_1, li_2, li_3, li_4, li_5, li_6, li_7, li_8, li_9, li_10, li_11, li_12, li_13, li_14, li_15, li_16, li_17, li_18, li_19, li_20, li_21, li_22, li_23, li_24, li_25, li_26, li_27, li_28, li_29, li_30, li_31, li_32, li_33, li_34, li_35, li_36, li_37, li_38, li_39, li_40, li_41, li_42, li_43, li_44, li_45, li_46, li_47, li_48, li_49, li_50, li_51, li_52, li_53, li_54, li_55, li_56, li_57, li_58, li_59, li_60, li_61, li_62, li_63, li_64, li_74, li_86, li_87, li_88, li_96, li_97, li_98, li_99, li_100, li_101, li_102, li_103, li_104, li_105, li_107, li_108, li_109, li_110, li_111, li_112, li_114, li_115, li_116, li_117, li_118, li_121, li_122, li_124, li_136, li_148, li_160, li_680, li_200, li_201, li_255, li_700, li_950, li_1000, li_1400, li_3440, li_4096, li_9999, li_10000, li_20000, li_20033, li_20038, li_20124, li_32767, li_65535, li_1103515245, li_12345, li_m, sx_grd, sx_clamp, nI_add, sx_sub, pk_mul, sx_le, sx_lt, sx_eq, sx_eqm, sx_meq, sx_lem, sx_mle, sx_ltm, sx_mlt, sx_addm, sx_shl, sx_bit1, sx_bit0, fa_or, uA_s, uA_n, sA_s, sA_n, sx_uA, sx_uAn, sx_sAs, pk_us, pk_un, if_true, if_false, if_pos, if_neg, ob_some, Nat.add_zero, Nat.add_sub_cancel, eq_self, ne_eq, not_true, not_false_iff, false_or, true_or, or_false, or_true, false_and, true_and, and_false, and_true, c.1.2.1, c_old c w hi]
      refine hk _ ?_
      rw [if_neg (by omega), mx, mx]
      congr 1
      split <;> omega
    · rw [if_neg i0] at h
      subst h
      simp (disch := omega) only [bnd_nr, li_0, li_1, li_2, li_3, li_4, li_5, li_6, li_7, li_8, li_9, li_10, li_11, li_12, li_13, li_14, li_15, li_16, li_17, li_18, li_19, li_20, li_21, li_22, li_23, li_24, li_25, li_26, li_27, li_28, li_29, li_30, li_31, li_32, li_33, li_34, li_35, li_36, li_37, li_38, li_39, li_40, li_41, li_42, li_43, li_44, li_45, li_46, li_47, li_48, li_49, li_50, li_51, li_52, li_53, li_54, li_55, li_56, li_57, li_58, li_59, li_60, li_61, li_62, li_63, li_64, li_74, li_86, li_87, li_88, li_96, li_97, li_98, li_99, li_100, li_101, li_102, li_103, li_104, li_105, li_107, li_108, li_109, li_110, li_111, li_112, li_114, li_115, li_116, li_117, li_118, li_121, li_122, li_124, li_136, li_148, li_160, li_680, li_200, li_201, li_255, li_700, li_950, li_1000, li_1400, li_3440, li_4096, li_9999, li_10000, li_20000, li_20033, li_20038, li_20124, li_32767, li_65535, li_1103515245, li_12345, li_m, sx_grd, sx_clamp, nI_add, sx_sub, pk_mul, sx_le, sx_lt, sx_eq, sx_eqm, sx_meq, sx_lem, sx_mle, sx_ltm, sx_mlt, sx_addm, sx_shl, sx_bit1, sx_bit0, fa_or, uA_s, uA_n, sA_s, sA_n, sx_uA, sx_uAn, sx_sAs, pk_us, pk_un, if_true, if_false, if_pos, if_neg, ob_some, Nat.add_zero, Nat.add_sub_cancel, eq_self, ne_eq, not_true, not_false_iff, false_or, true_or, or_false, or_true, false_and, true_and, and_false, and_true, c.1.2.1, c_old c w hi]
      refine hk _ ?_
      rw [if_neg (show ¬ i + 1 = 0 by omega), mx]
      split <;> rfl
theorem m_ahead0 {M : MS} {E : RE} {V : VT} (v : VM M 86 V) (w : WFV V) (ec : EC E M) (k : EOK E) {n0 : Nat} (hn : n0 ≤ 100) (he : ve V + 101 ≤ 20000) (x : Int32) : RT (f_X12_ahead_L32 (nI n0) x FUEL (nI 0) M) (fun q => QF M q.2 ∧ (x = 0 → RSL (og E V n0) (vn V) q.1) ∧ (x = 1 → STD (It E V n0) (vn V) q.1) ∧ (x = 2 → q.1 = OLD_ (It E V n0)) ∧ (¬ x = 0 → ¬ x = 1 → ¬ x = 2 → q.1 = nI (uS E V (n0 + 1) (vn V) / 2))) := by
  have b0 := w.1.1
  refine RT.cps (fun Q hQ => ?_)
  refine RT.loop0 (fun n p (z : MS) => f_X12_ahead_L32 (nI n0) x n (nI p) z) (vn V) (fun p z => (z.1 = M.1 ∧ z.2.1 = M.2.1 ∧ ∀ j, j ≠ 17 → j ≠ 18 → z.2.2 j = M.2.2 j) ∧ ∀ q, q < p → z.2.2 17 q = nI 0 ∧ z.2.2 18 q = nI 0) Q M (by omega) ⟨⟨rfl, rfl, fun _ _ _ => rfl⟩, fun q hq => absurd hq (Nat.not_lt_zero _)⟩ ?_ ?_
  · intro n z ⟨⟨z1, z2, z3⟩, z4⟩
    show RT (f_X12_ahead_L32 (nI n0) x (n + 1) (nI (vn V)) z) _
    have vz : VM z 86 V := VM_of (by rw [z1]) (z3 10 (by omega) (by omega)) v
    have qz : QF M z := ⟨fun a _ => by rw [z1], z2, fun j _ h2 => by
      have := scA_ne h2
      exact z3 j (by omega) (by omega), fun i _ => by rw [z3 10 (by omega) (by omega)]⟩
    have li0 : LI z E V 0 := fun p hp => by
      rw [(z4 p hp).1]
      congr 1
      exact (msk_zero.mpr (fb_ct_zero.mpr (fun q _ => by unfold rmF; rfl))).symm
    unfold f_X12_ahead_L32
    refine RT.itT (by rw [vz.1]; exact nI_le (Nat.le_refl _) (by omega)) ?_
    refine RT.bind (m_knows (E := E) (V0 := V) (i := 0) vz w.1 rfl li0) (fun r ⟨r1, r2⟩ => ?_)
    refine RT.loop0 (fun n i (y : MS) => f_X12_ahead_L66 (nI n0) x n (nI i) y) n0 (fun i y => QF M y ∧ VM y 86 (It E V i) ∧ LI y E V (i + 1) ∧ ∀ p, p < vn V → y.2.2 18 p = nI (og E V i p)) Q r (by omega) ⟨qz.trans r1.qf, r1.vm vz, r2, fun p hp => by rw [r1.2.2 18 (by omega)]; exact (z4 p hp).2⟩ ?_ ?_
    · intro n y ⟨y1, y2, y3, y4⟩
      show RT (f_X12_ahead_L66 (nI n0) x (n + 1) (nI n0) y) _
      obtain ⟨wi, ei, ni⟩ := It_wf (E := E) w n0 (by omega)
      have hni := wi.hn
      have yn : y.1 1 = nI (vn V) := by rw [y2.1, ni]
      unfold f_X12_ahead_L66
      refine RT.itT (nI_le (Nat.le_refl _) (by omega)) ?_
      refine RT.loop0_2 (fun n p (l3 l4 : Int32) => f_X12_ahead_L135 x (-1) y n l3 l4 (nI p)) (vn V) (fun p l3 l4 => RSL (og E V n0) p l3 ∧ STD (It E V n0) p l4) Q _ _ (by omega) ⟨Or.inl ⟨rfl, fun p hp => absurd hp (Nat.not_lt_zero _)⟩, Or.inl ⟨rfl, rfl⟩⟩ ?_ ?_
      · intro n l3 l4 ⟨h3, h4⟩
        show RT (f_X12_ahead_L135 x (-1) y (n + 1) l3 l4 (nI (vn V))) _
        unfold f_X12_ahead_L135
        refine RT.itT (by rw [yn]; exact nI_le (Nat.le_refl _) (by omega)) ?_
        refine RT.loop0 (fun n h (l5 : Int32) => f_X12_ahead_L214 x l3 l4 y n l5 (nI h)) (vh (It E V n0)) (fun h l5 => l5 = if h = 0 then mO else nI (mx (ol (It E V n0)) h)) Q _ (by omega) rfl ?_ ?_
        · intro n l5 h5
          show RT (f_X12_ahead_L214 x l3 l4 y (n + 1) l5 (nI (vh (It E V n0)))) _
          unfold f_X12_ahead_L214
          rw [show (87 : Int32) = nI 87 from rfl, sx_grd (by omega) (by omega), sx_clamp (by omega), y2.n8]
          refine RT.itT (nI_le (Nat.le_refl _) (by omega)) ?_
          refine RT.ite (fun d => RT.done hQ ⟨y1, fun _ => h3, fun z9 => ?_, fun z9 => ?_, fun z9 => absurd d z9⟩) (fun d => RT.ite (fun d2 => RT.done hQ ⟨y1, fun z9 => absurd z9 d, fun _ => h4, fun z9 => ?_, fun _ z9 => absurd d2 z9⟩) (fun d2 => RT.ite (fun d3 => RT.done hQ ⟨y1, fun z9 => absurd z9 d, fun z9 => absurd z9 d2, fun _ => h5, fun _ _ z9 => absurd d3 z9⟩) (fun d3 => ?_)))
          · rw [d] at z9; exact absurd z9 (by decide)
          · rw [d] at z9; exact absurd z9 (by decide)
          · rw [d2] at z9; exact absurd z9 (by decide)
          · rw [m_unknown yn b0.1 y3 (by omega), ob_some]
            exact RT.done hQ ⟨y1, fun z9 => absurd z9 d, fun z9 => absurd z9 d2, fun z9 => absurd z9 d3, fun _ _ _ => rfl⟩
        · intro n h l5 hh9 h5 hk
          show RT (f_X12_ahead_L214 x l3 l4 y (n + 1) l5 (nI h)) _
          have o1 := wi.1.2.2.2 h hh9
          have m1 := mx_bd (f := ol (It E V n0)) (c := 20000) (n := h) (fun k9 hk9 => by have := wi.1.2.2.2 k9 (by omega); omega)
          have nx1 : ∀ l9 : Int32, l9 = nI (mx (ol (It E V n0)) (h + 1)) → RT (f_X12_ahead_L214 x l3 l4 y n l9 (nI (h + 1))) Q := fun l9 e9 => hk _ (by rw [if_neg (by omega)]; exact e9)
          unfold f_X12_ahead_L214
          rw [show (87 : Int32) = nI 87 from rfl, sx_grd (by omega) (by omega), sx_clamp (by omega), y2.n8]
          refine RT.itF (nI_ge hh9 (by omega)) ?_
          rw [show (148 : Int32) = nI 148 from rfl, nI_add, sx_grd (by omega) (by omega), sx_clamp (by omega), y2.o8 h hh9, bnd_nr, bnd_nr, bnd_nr, nI_1, sx_grd (by omega) (by omega)]
          by_cases h0 : h = 0
          · subst h0
            rw [if_pos rfl] at h5
            refine RT.itF (by rw [h5, sx_lem (by omega)]; exact fun z9 => z9) (nx1 _ ?_)
            rw [mx, mx]
            congr 1
            split <;> omega
          · rw [if_neg h0] at h5
            rw [h5]
            simp (disch := omega) only [sx_le]
            refine RT.ite (fun d => nx1 _ ?_) (fun d => nx1 _ ?_)
            · rw [mx, if_neg (by omega)]
            · rw [mx, if_pos (by omega)]
      · intro n p l3 l4 hp ⟨h3, h4⟩ hk
        show RT (f_X12_ahead_L135 x (-1) y (n + 1) l3 l4 (nI p)) _
        have o1 := og_le E V n0 p
        have b1 := wi.1.2.1 p (by omega)
        have second : ∀ a : Int32, RSL (og E V n0) (p + 1) a → RT (f_X12_ahead_J172 (f_X12_ahead_L135 x (-1) y n) x (-1) y a l4 (nI p)) Q := by
          intro a ha
          unfold f_X12_ahead_J172
          rcases (show (l4 = mO ∧ p = 0) ∨ ∃ s, s < p ∧ l4 = nI s from by
            rcases h4 with ⟨a, b⟩ | ⟨s, s1, s2, _⟩
            · exact Or.inl ⟨a, b⟩
            · exact Or.inr ⟨s, s1, s2⟩) with ⟨t1, t2⟩ | ⟨s, s1, s2⟩
          · refine RT.itT t1 ?_
            rw [bnd_nr, nI_1]
            exact hk _ _ ⟨ha, STD_step h4 (Or.inl t2) (by omega)⟩
          · have b2 := wi.1.2.1 s (by omega)
            subst s2
            refine RT.itF (show ¬ nI s = mO from by rw [sx_eqm (by omega)]; exact fun t => t) ?_
            rw [show (112 : Int32) = nI 112 from rfl, nI_add, nI_add, sx_grd (by omega) (by omega), sx_grd (by omega) (by omega), sx_clamp (by omega), sx_clamp (by omega), y2.s8 p (by omega), y2.s8 s (by omega), bnd_nr, bnd_nr, nI_1]
            simp (disch := omega) only [sx_le]
            refine RT.ite (fun d => hk _ _ ⟨ha, STD_stay h4 rfl s1 d (by omega)⟩) (fun d => hk _ _ ⟨ha, STD_step h4 (Or.inr ⟨s, rfl, s1, by omega⟩) (by omega)⟩)
        unfold f_X12_ahead_L135
        refine RT.itF (by rw [yn]; exact nI_ge hp (by omega)) ?_
        rw [sx_grd (by omega) (by omega), sx_clamp (by omega), y4 p hp]
        unfold f_X12_ahead_J166
        rcases (show (l3 = mO) ∨ ∃ s, s < p ∧ l3 = nI s from by
          rcases h3 with ⟨a, _⟩ | ⟨s, s1, s2, _⟩
          · exact Or.inl a
          · exact Or.inr ⟨s, s1, s2⟩) with t1 | ⟨s, s1, s2⟩
        · refine RT.itT t1 ?_
          rw [li_0]
          simp (disch := omega) only [sx_le]
          refine RT.ite (fun d => second _ (RSL_stay h3 (Or.inl ⟨t1, by omega⟩) (by omega))) (fun d => second _ (RSL_step h3 (Or.inl ⟨t1, by omega⟩) (by omega)))
        · have o2 := og_le E V n0 s
          subst s2
          refine RT.itF (show ¬ nI s = mO from by rw [sx_eqm (by omega)]; exact fun t => t) ?_
          rw [sx_grd (by omega) (by omega), sx_clamp (by omega), y4 s (by omega)]
          simp (disch := omega) only [sx_le]
          refine RT.ite (fun d => second _ (RSL_stay h3 (Or.inr ⟨s, rfl, s1, d⟩) (by omega))) (fun d => second _ (RSL_step h3 (Or.inr ⟨s, rfl, s1, by omega⟩) (by omega)))
    · intro n i y hi ⟨y1, y2, y3, y4⟩ hk
      show RT (f_X12_ahead_L66 (nI n0) x (n + 1) (nI i) y) _
      obtain ⟨wi, ei, ni⟩ := It_wf (E := E) w i (by omega)
      obtain ⟨wj, ej, nj⟩ := It_wf (E := E) w (i + 1) (by omega)
      unfold f_X12_ahead_L66
      refine RT.itF (nI_ge hi (by omega)) ?_
      refine RT.bind (m_ev86 y2 wi (ec.qf y1) k (by omega)) (fun q ⟨q1, q2, q3⟩ => ?_)
      have q3 : VM q 86 (It E V (i + 1)) := q3
      have lq : LI q E V (i + 1) := fun p hp => by rw [q1.2.2.1 17 (by omega) (by omega) (by omega) (by omega)]; exact y3 p hp
      refine RT.bind (m_knows q3 wj.1 nj lq) (fun r ⟨r1, r2⟩ => ?_)
      have vr := r1.vm q3
      have r41 : r.1 41 = nI (msk (gN E (It E V i)) (vn V)) := by rw [r1.1, q2, ni]
      have ml := msk31 (f := gN E (It E V i)) (n := vn V) (by omega)
      refine RT.loop0 (fun n2 p (t : MS) => f_X12_ahead_L84 (f_X12_ahead_L66 (nI n0) x n) (nI n0) x (nI i) n2 (nI p) t) (vn V) (fun p t => (t.1 = r.1 ∧ t.2.1 = r.2.1 ∧ ∀ j, j ≠ 18 → t.2.2 j = r.2.2 j) ∧ ∀ s, s < vn V → t.2.2 18 s = nI (if s < p then og E V (i + 1) s else og E V i s)) Q r (by omega) ⟨⟨rfl, rfl, fun _ _ => rfl⟩, fun s hs => by rw [r1.2.2 18 (by omega), q1.2.2.1 18 (by omega) (by omega) (by omega) (by omega), if_neg (by omega)]; exact y4 s hs⟩ ?_ ?_
      · intro n2 t ⟨⟨t1, t2, t3⟩, t4⟩
        show RT (f_X12_ahead_L84 (f_X12_ahead_L66 (nI n0) x n) (nI n0) x (nI i) (n2 + 1) (nI (vn V)) t) _
        have vt : VM t 86 (It E V (i + 1)) := VM_of (by rw [t1]) (t3 10 (by omega)) vr
        unfold f_X12_ahead_L84
        refine RT.itT (by rw [vt.1, nj]; exact nI_le (Nat.le_refl _) (by omega)) ?_
        rw [bnd_nr, nI_1]
        refine hk _ ⟨((y1.trans q1.qf).trans r1.qf).trans ⟨fun a _ => by rw [t1], t2, fun j _ h2 => by
          have := scA_ne h2
          exact t3 j (by omega), fun i _ => by rw [t3 10 (by omega)]⟩, vt, fun p hp => by rw [t3 17 (by omega)]; exact r2 p hp, fun p hp => by rw [t4 p hp, if_pos hp]⟩
      · intro n2 p t hp ⟨⟨t1, t2, t3⟩, t4⟩ hk2
        show RT (f_X12_ahead_L84 (f_X12_ahead_L66 (nI n0) x n) (nI n0) x (nI i) (n2 + 1) (nI p) t) _
        have vt : VM t 86 (It E V (i + 1)) := VM_of (by rw [t1]) (t3 10 (by omega)) vr
        have tp := t4 p hp
        rw [if_neg (by omega)] at tp
        unfold f_X12_ahead_L84
        refine RT.itF (by rw [vt.1, nj]; exact nI_ge hp (by omega)) ?_
        have bit : t.1 41 >>> (nI p &&& 31) &&& 1 = nI (if gN E (It E V i) p then 1 else 0) := by
          rw [t1, r41, sr1 (by omega) (by omega), msk_bit, decide_eq_true hp, Bool.true_and]
        rw [sx_grd (by omega) (by omega), sx_grd (by omega) (by omega), bnd_nr, bnd_nr, nI_1, sx_clamp (by omega), tp, bit, nI_add]
        refine hk2 _ ⟨⟨t1, t2, fun j hj => by simp only [uA_n hj]; exact t3 j hj⟩, fun s hs => ?_⟩
        simp only [uA_s]
        by_cases sp : s = p
        · subst sp; rw [pk_us, if_pos (show s < s + 1 by omega)]; rfl
        · rw [pk_un sp, t4 s hs]
          by_cases sl : s < p
          · rw [if_pos sl, if_pos (by omega)]
          · rw [if_neg sl, if_neg (by omega)]
  · intro n p z hp ⟨⟨z1, z2, z3⟩, z4⟩ hk
    show RT (f_X12_ahead_L32 (nI n0) x (n + 1) (nI p) z) _
    have vz : VM z 86 V := VM_of (by rw [z1]) (z3 10 (by omega) (by omega)) v
    unfold f_X12_ahead_L32
    simp (disch := omega) only [bnd_nr, li_0, li_1, li_2, li_3, li_4, li_5, li_6, li_7, li_8, li_9, li_10, li_11, li_12, li_13, li_14, li_15, li_16, li_17, li_18, li_19, li_20, li_21, li_22, li_23, li_24, li_25, li_26, li_27, li_28, li_29, li_30, li_31, li_32, li_33, li_34, li_35, li_36, li_37, li_38, li_39, li_40, li_41, li_42, li_43, li_44, li_45, li_46, li_47, li_48, li_49, li_50, li_51, li_52, li_53, li_54, li_55, li_56, li_57, li_58, li_59, li_60, li_61, li_62, li_63, li_64, li_74, li_86, li_87, li_88, li_96, li_97, li_98, li_99, li_100, li_101, li_102, li_103, li_104, li_105, li_107, li_108, li_109, li_110, li_111, li_112, li_114, li_115, li_116, li_117, li_118, li_121, li_122, li_124, li_136, li_148, li_160, li_680, li_200, li_201, li_255, li_700, li_950, li_1000, li_1400, li_3440, li_4096, li_9999, li_10000, li_20000, li_20033, li_20038, li_20124, li_32767, li_65535, li_1103515245, li_12345, li_m, sx_grd, sx_clamp, nI_add, sx_sub, pk_mul, sx_le, sx_lt, sx_eq, sx_eqm, sx_meq, sx_lem, sx_mle, sx_ltm, sx_mlt, sx_addm, sx_shl, sx_bit1, sx_bit0, fa_or, uA_s, uA_n, sA_s, sA_n, sx_uA, sx_uAn, sx_sAs, pk_us, pk_un, if_true, if_false, if_pos, if_neg, ob_some, Nat.add_zero, Nat.add_sub_cancel, eq_self, ne_eq, not_true, not_false_iff, false_or, true_or, or_false, or_true, false_and, true_and, and_false, and_true, vz.1]
    refine hk _ ⟨⟨z1, z2, fun j j1 j2 => by simp (disch := omega) only [uA_n]; exact z3 j j1 j2⟩, fun q hq => ?_⟩
    simp (disch := omega) only [uA_s, uA_n]
    by_cases qp : q = p
    · subst qp; rw [pk_us, pk_us]; exact ⟨rfl, rfl⟩
    · rw [pk_un qp, pk_un qp]; exact z4 q (by omega)
