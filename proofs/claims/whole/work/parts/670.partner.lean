/-! partners of both -/
theorem sz_lf {V : VT} {h : Nat} : cf V (lf V 0 h) = sz V h := fb_ct_cong (fun p _ => by unfold lf; rw [Nat.zero_testBit]; rfl)
theorem PH_0 {V : VT} : PH V 0 = 1000 * fb_sm (fun h => sz V h % 2) (vh V) + fb_sm (fun h => Lv V (lf V 0 h)) (vh V) := by
  have k : ∀ m, fb_sm (fun h => ph V (lf V 0 h)) m = 1000 * fb_sm (fun h => sz V h % 2) m + fb_sm (fun h => Lv V (lf V 0 h)) m := by
    intro m
    induction m with
    | zero => rfl
    | succ m ih =>
      rw [fb_sm_succ, fb_sm_succ, fb_sm_succ, ih]
      unfold ph
      rw [sz_lf]
      omega
  exact k _
theorem part_many {V : VT} (w : WFP V) : (vn V - PH V 0 / 1000) / 2 = fb_sm (fun h => sz V h / 2) (vh V) ∧ PH V 0 % 1000 = fb_sm (fun h => Lv V (lf V 0 h)) (vh V) ∧ PH V 0 / 1000 ≤ vn V := by
  have b := fb_sm_bound (f := fun h => Lv V (lf V 0 h)) (c := 9) (n := vh V) (fun h _ => Lv_le _)
  have b0 := w.1
  have s := sz_sum w
  have d : ∀ m, fb_sm (sz V) m = 2 * fb_sm (fun h => sz V h / 2) m + fb_sm (fun h => sz V h % 2) m := by
    intro m
    induction m with
    | zero => rfl
    | succ m ih => rw [fb_sm_succ, fb_sm_succ, fb_sm_succ, ih]; omega
  have d := d (vh V)
  rw [PH_0]
  omega
def cnd (V : VT) (s p o : Nat) : Bool := decide (p < o) && (!s.testBit o && (decide (ho V p = ho V o) && decide (ad (rk V p) (rk V o) + PH V (s ||| 2 ^ p ||| 2 ^ o) = PH V s)))
theorem cnd_iff {V : VT} {s p o : Nat} : cnd V s p o = true ↔ p < o ∧ s.testBit o = false ∧ ho V p = ho V o ∧ ad (rk V p) (rk V o) + PH V (s ||| 2 ^ p ||| 2 ^ o) = PH V s := by
  unfold cnd
  simp only [Bool.and_eq_true, decide_eq_true_eq, Bool.not_eq_true']
/-- the first partner of p, or none -/
def FPm (V : VT) (s p : Nat) (r : Int32) : Prop := (r = mO ∧ ∀ o, o < vn V → cnd V s p o = false) ∨ ∃ o, o < vn V ∧ r = nI o ∧ cnd V s p o = true ∧ ∀ q, q < o → cnd V s p q = false
theorem FPm_one {V : VT} {s p : Nat} {r t : Int32} (a : FPm V s p r) (b : FPm V s p t) : r = t := by
  rcases a with ⟨a1, a2⟩ | ⟨o, o1, o2, o3, o4⟩
  · rcases b with ⟨b1, b2⟩ | ⟨q, q1, q2, q3, q4⟩
    · rw [a1, b1]
    · rw [a2 q q1] at q3; cases q3
  · rcases b with ⟨b1, b2⟩ | ⟨q, q1, q2, q3, q4⟩
    · rw [b2 o o1] at o3; cases o3
    · rw [o2, q2]
      congr 1
      rcases Nat.lt_trichotomy o q with z | z | z
      · rw [q4 o z] at o3; cases o3
      · exact z
      · rw [o4 q z] at q3; cases q3
/-- the class's first partner is the reference's -/
theorem FPc_m {V : VT} (w : WFP V) {s p : Nat} (l1 : p < vn V) (l2 : s.testBit p = false) {S : Nat} (hS : ∀ q, q < vn V → S.testBit q = lf V s (ho V p) q) {r : Int32} (h : FPc V S p r) : FPm V s p r := by
  have fp : lf V s (ho V p) p = true := by unfold lf; rw [l2]; simp
  have key : ∀ q, p < q → q < vn V → (cnd V s p q = true ↔ S.testBit q = true ∧ ad (rk V p) (rk V q) + Lv V (rmF (rmF S.testBit p) q) = Lv V S.testBit) := by
    intro q h1 h2
    rw [cnd_iff, hS q h2]
    unfold lf
    rw [Bool.and_eq_true, decide_eq_true_eq, Bool.not_eq_true']
    constructor
    · intro ⟨a1, a2, a3, a4⟩
      refine ⟨⟨a2, a3.symm⟩, ?_⟩
      have o2 := PH_or2 w (s := s) l1 h2 a3.symm
      have c1 := cf_rm l1 fp
      have c2 := cf_rm (V := V) (f := rmF (lf V s (ho V p)) p) h2 (by rw [rm_ne (by omega)]; unfold lf; rw [a2, ← a3]; simp)
      rw [Lv_cong (f := S.testBit) (g := lf V s (ho V p)) hS, Lv_cong (f := rmF (rmF S.testBit p) q) (g := rmF (rmF (lf V s (ho V p)) p) q) (fun x hx => by unfold rmF; rw [hS x hx])]
      unfold ph at o2
      omega
    · intro ⟨⟨a2, a3⟩, a4⟩
      refine ⟨h1, a2, a3.symm, ?_⟩
      have o2 := PH_or2 w (s := s) l1 h2 a3
      have c1 := cf_rm l1 fp
      have c2 := cf_rm (V := V) (f := rmF (lf V s (ho V p)) p) h2 (by rw [rm_ne (by omega)]; unfold lf; rw [a2, a3]; simp)
      rw [Lv_cong (f := S.testBit) (g := lf V s (ho V p)) hS, Lv_cong (f := rmF (rmF S.testBit p) q) (g := rmF (rmF (lf V s (ho V p)) p) q) (fun x hx => by unfold rmF; rw [hS x hx])] at a4
      unfold ph at o2
      omega
  have low9 : ∀ q, q ≤ p → cnd V s p q = false := fun q hq => Bool.eq_false_iff.mpr (fun z => by
    have := (cnd_iff.mp z).1; omega)
  rcases h with ⟨r1, r2⟩ | ⟨q, q1, q2, q3, q4, q5, q6⟩
  · refine Or.inl ⟨r1, fun o ho9 => ?_⟩
    rcases Nat.lt_or_ge p o with z | z
    · exact Bool.eq_false_iff.mpr (fun y => r2 o z ho9 ((key o z ho9).mp y).1 ((key o z ho9).mp y).2)
    · exact low9 o z
  · refine Or.inr ⟨q, q2, q3, (key q q1 q2).mpr ⟨q4, q5⟩, fun t ht => ?_⟩
    rcases Nat.lt_or_ge p t with z | z
    · exact Bool.eq_false_iff.mpr (fun y => q6 t z ht ((key t z (by omega)).mp y).1 ((key t z (by omega)).mp y).2)
    · exact low9 t z
/-- one round of the reference's partnerOf -/
theorem m_round {M : MS} {V : VT} (v : VM M 0 V) (w : WFP V) (lst : ∀ s, s < 2 ^ vn V → M.2.2 19 s = nI (PH V s)) {s who m : Nat} (hs : s < 2 ^ vn V - 1) (hw : who < vn V) : ∃ its, FPm V s (low s) its ∧ f_X12_partnerOf_L15 (nI who) (nI (2 ^ vn V - 1)) M (m + 1) (nI s) = (if low s = who then some (its, M) else if its = nI who then some (nI (low s), M) else f_X12_partnerOf_L15 (nI who) (nI (2 ^ vn V - 1)) M m (if its = mO then nI (s ||| 2 ^ low s) else nI (s ||| 2 ^ low s) ||| (nI 1 <<< (its &&& nI 31)))) := by
  have b0 := w.1
  have p1 := Nat.two_pow_pos (vn V)
  have p2 := pw12 b0.1
  obtain ⟨l1, l2⟩ := low_lt w.1.1 hs
  have pl9 : ∀ t, PH V t ≤ 13117 := PH_le w
  have o2 : s ||| 2 ^ low s < 2 ^ vn V := Nat.or_lt_two_pow (by omega) (Nat.pow_lt_pow_right (by omega) l1)
  have ml9 := m_lowestOut (n := vn V) b0.1 hs
  generalize low s = p at l1 l2 o2 ml9 ⊢
  have loop : ∀ (n o : Nat) (its : Int32), o < n → p ≤ o → o < vn V → ((its = mO ∧ ∀ q, o < q → q < vn V → cnd V s (p) q = false) ∨ ∃ q, o < q ∧ q < vn V ∧ its = nI q ∧ cnd V s (p) q = true ∧ ∀ t, o < t → t < q → cnd V s (p) t = false) → ∃ its', FPm V s (p) its' ∧ f_X12_partnerOf_L37 (f_X12_partnerOf_L15 (nI who) (nI (2 ^ vn V - 1)) M m) (nI who) (nI s) (nI (2 ^ vn V - 1)) (nI p) M n its (nI o) = (if p = who then some (its', M) else if its' = nI who then some (nI (p), M) else f_X12_partnerOf_L15 (nI who) (nI (2 ^ vn V - 1)) M m (if its' = mO then nI (s ||| 2 ^ p) else nI (s ||| 2 ^ p) ||| (nI 1 <<< (its' &&& nI 31)))) := by
    intro n
    induction n with
    | zero => intro o its h; exact absurd h (by omega)
    | succ n ih =>
      intro o its hn9 h1 h2 hc
      by_cases e : o = p
      · subst e
        refine ⟨its, ?_, ?_⟩
        · have low9 : ∀ q, q ≤ o → cnd V s (o) q = false := fun q hq => Bool.eq_false_iff.mpr (fun z => by
            have := (cnd_iff.mp z).1; omega)
          rcases hc with ⟨c1, c2⟩ | ⟨q, q1, q2, q3, q4, q5⟩
          · exact Or.inl ⟨c1, fun q hq => by
              rcases Nat.lt_or_ge (o) q with z | z
              · exact c2 q z hq
              · exact low9 q z⟩
          · exact Or.inr ⟨q, q2, q3, q4, fun t ht => by
              rcases Nat.lt_or_ge (o) t with z | z
              · exact q5 t z ht
              · exact low9 t z⟩
        · rw [f_X12_partnerOf_L37, if_pos (nI_le (Nat.le_refl _) (by omega))]
          by_cases x : o = who
          · rw [if_pos (by rw [x]), if_pos x]
          · rw [if_neg (fun z => x ((nI_eq (by omega) (by omega)).mp z)), if_neg x]
            by_cases y : its = nI who
            · rw [if_pos y, if_pos y]
            · rw [if_neg y, if_neg y, bnd_nr, li_1, show (31 : Int32) = nI 31 from rfl, sx_shl (by omega), fa_or, li_m]
              by_cases z : its = mO
              · rw [if_pos z, if_pos z]
              · rw [if_neg z, if_neg z, bnd_nr]
      · rw [f_X12_partnerOf_L37, if_neg (nI_ge (show p < o by omega) (by omega))]
        have dec : nI o + (-1 : Int32) = nI (o - 1) := sx_addm (by omega)
        have keep : cnd V s (p) o = false → ∃ its', FPm V s (p) its' ∧ f_X12_partnerOf_L37 (f_X12_partnerOf_L15 (nI who) (nI (2 ^ vn V - 1)) M m) (nI who) (nI s) (nI (2 ^ vn V - 1)) (nI p) M n its (nI (o - 1)) = (if p = who then some (its', M) else if its' = nI who then some (nI (p), M) else f_X12_partnerOf_L15 (nI who) (nI (2 ^ vn V - 1)) M m (if its' = mO then nI (s ||| 2 ^ p) else nI (s ||| 2 ^ p) ||| (nI 1 <<< (its' &&& nI 31)))) := by
          intro no
          refine ih (o - 1) its (by omega) (by omega) (by omega) ?_
          rcases hc with ⟨c1, c2⟩ | ⟨q, q1, q2, q3, q4, q5⟩
          · refine Or.inl ⟨c1, fun q a b => ?_⟩
            by_cases qo : q = o
            · subst qo; exact no
            · exact c2 q (by omega) b
          · refine Or.inr ⟨q, by omega, q2, q3, q4, fun t a b => ?_⟩
            by_cases to : t = o
            · subst to; exact no
            · exact q5 t (by omega) b
        by_cases d : s.testBit o = false
        · rw [if_pos ((sr1_0 (by omega) (by omega)).mpr d), m_canPair v w l1 h2 (by omega), ob_some]
          by_cases hh9 : ho V (p) = ho V o
          · have bl := w.2.1 _ l1
            have bo := w.2.1 _ h2
            have adl : ad (rk V (p)) (rk V o) ≤ 9 := by unfold ad; split <;> omega
            have a8 := pl9 (s ||| 2 ^ p ||| 2 ^ o)
            have a7 := pl9 s
            have g2 : s ||| 2 ^ p ||| 2 ^ o < 2 ^ vn V := Nat.or_lt_two_pow o2 (Nat.pow_lt_pow_right (by omega) h2)
            rw [if_pos hh9, if_neg (by decide), m_pairs v w (by omega) l1 h2 (lst _ g2), ob_some, sx_grd (by omega) (by omega), sx_clamp (by omega), lst s (by omega)]
            by_cases q : ad (rk V (p)) (rk V o) + PH V (s ||| 2 ^ p ||| 2 ^ o) = PH V s
            · rw [if_pos (by rw [q]), bnd_nr, dec]
              have yes : cnd V s (p) o = true := cnd_iff.mpr ⟨by omega, d, hh9, q⟩
              exact ih (o - 1) (nI o) (by omega) (by omega) (by omega) (Or.inr ⟨o, by omega, h2, rfl, yes, fun t a b => absurd a (by omega)⟩)
            · rw [if_neg (fun z => q ((nI_eq (by omega) (by omega)).mp z)), bnd_nr, dec]
              exact keep (Bool.eq_false_iff.mpr (fun z => q (cnd_iff.mp z).2.2.2))
          · rw [if_neg hh9, if_pos (show nI 0 = 0 from rfl), bnd_nr, dec]
            exact keep (Bool.eq_false_iff.mpr (fun z => hh9 (cnd_iff.mp z).2.2.1))
        · rw [if_neg (fun z => d ((sr1_0 (by omega) (by omega)).mp z)), bnd_nr, dec]
          exact keep (Bool.eq_false_iff.mpr (fun z => d (cnd_iff.mp z).2.1))
  obtain ⟨its, i1, i2⟩ := loop FUEL (vn V - 1) mO (by unfold FUEL; omega) (by omega) (by omega) (Or.inl ⟨rfl, fun q a b => absurd a (by omega)⟩)
  refine ⟨its, i1, ?_⟩
  rw [f_X12_partnerOf_L15, if_neg (fun z => by
    have := (nI_eq (a := s) (b := 2 ^ vn V - 1) (by omega) (by omega)).mp z
    omega), ml9, ob_some, bnd_nr, v.1, show (1 : Int32) = nI 1 from rfl, sx_sub (by omega)]
  exact i2
theorem FPm_lt {V : VT} {s p : Nat} {r : Int32} (h : FPm V s p r) : r = mO ∨ ∃ o, o < vn V ∧ p < o ∧ s.testBit o = false ∧ r = nI o := by
  rcases h with ⟨h1, _⟩ | ⟨o, o1, o2, o3, _⟩
  · exact Or.inl h1
  · have := cnd_iff.mp o3
    exact Or.inr ⟨o, o1, this.1, this.2.1, o2⟩
/-- the reference's partnerOf ends -/
theorem m_part_ends {M : MS} {V : VT} (v : VM M 0 V) (w : WFP V) (lst : ∀ s, s < 2 ^ vn V → M.2.2 19 s = nI (PH V s)) {who : Nat} (hw : who < vn V) : ∀ (m s : Nat), s < 2 ^ vn V → 2 ^ vn V ≤ s + m → ∃ r, f_X12_partnerOf_L15 (nI who) (nI (2 ^ vn V - 1)) M m (nI s) = some (r, M) := by
  have b0 := w.1
  have p1 := Nat.two_pow_pos (vn V)
  have p2 := pw12 b0.1
  intro m
  induction m with
  | zero => intro s h1 h2; exact absurd h1 (by omega)
  | succ m ih =>
    intro s h1 h2
    by_cases e : s = 2 ^ vn V - 1
    · subst e
      exact ⟨mO, by rw [f_X12_partnerOf_L15, if_pos rfl]; rfl⟩
    · obtain ⟨l1, l2⟩ := low_lt w.1.1 (show s < 2 ^ vn V - 1 by omega)
      obtain ⟨its, i1, i2⟩ := m_round v w lst (s := s) (who := who) (m := m) (by omega) hw
      have o1 := or_gt l2
      have o2 : s ||| 2 ^ low s < 2 ^ vn V := Nat.or_lt_two_pow h1 (Nat.pow_lt_pow_right (by omega) l1)
      rw [i2]
      by_cases x : low s = who
      · rw [if_pos x]; exact ⟨_, rfl⟩
      · rw [if_neg x]
        by_cases y : its = nI who
        · rw [if_pos y]; exact ⟨_, rfl⟩
        · rw [if_neg y]
          rcases FPm_lt i1 with z | ⟨o, z1, z2, z3, z4⟩
          · rw [if_pos z]; exact ih _ o2 (by omega)
          · subst z4
            rw [if_neg (by rw [sx_eqm (by omega)]; exact fun t => t), sx_shl (by omega), fa_or]
            have o3 : s ||| 2 ^ low s ||| 2 ^ o < 2 ^ vn V := Nat.or_lt_two_pow o2 (Nat.pow_lt_pow_right (by omega) z1)
            have o4 : s ||| 2 ^ low s ≤ s ||| 2 ^ low s ||| 2 ^ o := Nat.left_le_or
            exact ih _ o3 (by omega)
theorem m_partnerOf {M : MS} {V : VT} (v : VM M 0 V) (w : WFP V) {who : Nat} (hw : who < vn V) : RT (f_X12_partnerOf M (nI who)) (fun q => q.2.1 = M.1 ∧ q.2.2.1 = M.2.1 ∧ (∀ j, j ≠ 19 → q.2.2.2 j = M.2.2 j) ∧ VM q.2 0 V ∧ (∀ s, s < 2 ^ vn V → q.2.2.2 19 s = nI (PH V s)) ∧ f_X12_partnerOf_L15 (nI who) (nI (2 ^ vn V - 1)) q.2 FUEL (nI 0) = some (q.1, q.2)) := by
  have b0 := w.1
  have p1 := Nat.two_pow_pos (vn V)
  have p2 := pw12 b0.1
  refine RT.cps (fun Q hQ => ?_)
  unfold f_X12_partnerOf
  refine RT.bind (m_laysPairs v w) (fun r ⟨r1, r2, r3, r4⟩ => ?_)
  have vr : VM r 0 V := VM_of (by rw [r1]) (r3 10 (by omega)) v
  obtain ⟨x, ex⟩ := m_part_ends vr w r4 hw FUEL 0 (by omega) (by unfold FUEL; omega)
  rw [bnd_nr, vr.1, li_1, show (31 : Int32) = nI 31 from rfl, sx_shl (by omega), sx_sub (by omega), li_0, ex]
  exact RT.done hQ ⟨r1, r2, r3, vr, r4, ex⟩
theorem c_partnerOf {o v : Ob} {M : MS} {V : VT} (c : VC v V) (vm : VM M 0 V) (w : WFP V) (lst : ∀ s, s < 2 ^ vn V → M.2.2 19 s = nI (PH V s)) {who : Nat} (hw : who < vn V) {T : Int32} (hT : f_X12_partnerOf_L15 (nI who) (nI (2 ^ vn V - 1)) M FUEL (nI 0) = some (T, M)) : RT (f_X5_partnerOf o v (nI who)) (fun q => q.1 = T) := by
  have b0 := w.1
  have p1 := Nat.two_pow_pos (vn V)
  have p2 := pw12 b0.1
  refine RT.cps (fun Q hQ => ?_)
  unfold f_X5_partnerOf
  rw [j_fill _ (by omega)]
  simp (disch := omega) only [bnd_nr, li_0, li_1, li_2, li_3, li_4, li_5, li_6, li_7, li_8, li_9, li_10, li_11, li_12, li_13, li_14, li_15, li_16, li_17, li_18, li_19, li_20, li_21, li_22, li_23, li_24, li_25, li_26, li_27, li_28, li_29, li_30, li_31, li_32, li_33, li_34, li_35, li_36, li_37, li_38, li_39, li_40, li_41, li_42, li_43, li_44, li_45, li_46, li_47, li_48, li_49, li_50, li_51, li_52, li_53, li_54, li_55, li_56, li_57, li_58, li_59, li_60, li_61, li_62, li_63, li_64, li_74, li_86, li_87, li_88, li_96, li_97, li_98, li_99, li_100, li_101, li_102, li_103, li_104, li_105, li_107, li_108, li_109, li_110, li_111, li_112, li_114, li_115, li_116, li_117, li_118, li_121, li_122, li_124, li_136, li_148, li_160, li_680, li_200, li_201, li_255, li_700, li_950, li_1000, li_1400, li_3440, li_4096, li_9999, li_10000, li_20000, li_20033, li_20038, li_20124, li_32767, li_65535, li_1103515245, li_12345, li_m, sx_grd, sx_clamp, nI_add, sx_sub, pk_mul, sx_le, sx_lt, sx_eq, sx_eqm, sx_meq, sx_lem, sx_mle, sx_ltm, sx_mlt, sx_addm, sx_shl, sx_bit1, sx_bit0, fa_or, uA_s, uA_n, sA_s, sA_n, sx_uA, sx_uAn, sx_sAs, pk_us, pk_un, if_true, if_false, if_pos, if_neg, ob_some, Nat.add_zero, Nat.add_sub_cancel, eq_self, ne_eq, not_true, not_false_iff, false_or, true_or, or_false, or_true, false_and, true_and, and_false, and_true, c.1.1]
  refine RT.loop0_2 (fun n p (l3 : Int32) (z : Ob) => f_X5_partnerOf_L20 (nI who) v n l3 (nI p) z) (vn V) (fun p l3 z => ∃ L S, l3 = nI L ∧ L < 2 ^ vn V ∧ S < 2 ^ vn V ∧ (∀ q, q < vn V → L.testBit q = !S.testBit q) ∧ (∀ q, q < p → q < vn V → S.testBit q = true) ∧ ((S.testBit who = false ∧ ∃ m, f_X12_partnerOf_L15 (nI who) (nI (2 ^ vn V - 1)) M m (nI S) = some (T, M) ∧ z.2 1 who = mO) ∨ (S.testBit who = true ∧ z.2 1 who = T))) _ _ _ (by omega) ⟨2 ^ vn V - 1, 0, rfl, by omega, by omega, fun q hq => by rw [full_bits _ q hq, Nat.zero_testBit]; rfl, fun q hq => absurd hq (Nat.not_lt_zero _), Or.inl ⟨Nat.zero_testBit _, FUEL, hT, ?_⟩⟩ ?_ ?_
  · simp (disch := omega) only [uA_s, uA_n, sA_s, sA_n, pk_us, pk_un]
    rw [fa_fill_in (by omega)]
  · intro n l3 z ⟨L, S, e1, e2, e3, e4, e5, e6⟩
    show RT (f_X5_partnerOf_L20 (nI who) v (n + 1) l3 (nI (vn V)) z) _
    unfold f_X5_partnerOf_L20
    simp (disch := omega) only [bnd_nr, li_0, li_1, li_2, li_3, li_4, li_5, li_6, li_7, li_8, li_9, li_10, li_11, li_12, li_13, li_14, li_15, li_16, li_17, li_18, li_19, li_20, li_21, li_22, li_23, li_24, li_25, li_26, li_27, li_28, li_29, li_30, li_31, li_32, li_33, li_34, li_35, li_36, li_37, li_38, li_39, li_40, li_41, li_42, li_43, li_44, li_45, li_46, li_47, li_48, li_49, li_50, li_51, li_52, li_53, li_54, li_55, li_56, li_57, li_58, li_59, li_60, li_61, li_62, li_63, li_64, li_74, li_86, li_87, li_88, li_96, li_97, li_98, li_99, li_100, li_101, li_102, li_103, li_104, li_105, li_107, li_108, li_109, li_110, li_111, li_112, li_114, li_115, li_116, li_117, li_118, li_121, li_122, li_124, li_136, li_148, li_160, li_680, li_200, li_201, li_255, li_700, li_950, li_1000, li_1400, li_3440, li_4096, li_9999, li_10000, li_20000, li_20033, li_20038, li_20124, li_32767, li_65535, li_1103515245, li_12345, li_m, sx_grd, sx_clamp, nI_add, sx_sub, pk_mul, sx_le, sx_lt, sx_eq, sx_eqm, sx_meq, sx_lem, sx_mle, sx_ltm, sx_mlt, sx_addm, sx_shl, sx_bit1, sx_bit0, fa_or, uA_s, uA_n, sA_s, sA_n, sx_uA, sx_uAn, sx_sAs, pk_us, pk_un, if_true, if_false, if_pos, if_neg, ob_some, Nat.add_zero, Nat.add_sub_cancel, eq_self, ne_eq, not_true, not_false_iff, false_or, true_or, or_false, or_true, false_and, true_and, and_false, and_true, c.1.1]
    refine RT.done hQ ?_
    rcases e6 with ⟨a, _⟩ | ⟨a, b⟩
    · rw [e5 who hw hw] at a; cases a
    · exact b
  · intro n p l3 z hp ⟨L, S, e1, e2, e3, e4, e5, e6⟩ hk
    show RT (f_X5_partnerOf_L20 (nI who) v (n + 1) l3 (nI p) z) _
    have b1 := w.2.1 p hp
    unfold f_X5_partnerOf_L20
    simp (disch := omega) only [bnd_nr, li_0, li_1, li_2, li_3, li_4, li_5, li_6, li_7, li_8, li_9, li_10, li_11, li_12, li_13, li_14, li_15, li_16, li_17, li_18, li_19, li_20, li_21, li_22, li_23, li_24, li_25, li_26, li_27, li_28, li_29, li_30, li_31, li_32, li_33, li_34, li_35, li_36, li_37, li_38, li_39, li_40, li_41, li_42, li_43, li_44, li_45, li_46, li_47, li_48, li_49, li_50, li_51, li_52, li_53, li_54, li_55, li_56, li_57, li_58, li_59, li_60, li_61, li_62, li_63, li_64, li_74, li_86, li_87, li_88, li_96, li_97, li_98, li_99, li_100, li_101, li_102, li_103, li_104, li_105, li_107, li_108, li_109, li_110, li_111, li_112, li_114, li_115, li_116, li_117, li_118, li_121, li_122, li_124, li_136, li_148, li_160, li_680, li_200, li_201, li_255, li_700, li_950, li_1000, li_1400, li_3440, li_4096, li_9999, li_10000, li_20000, li_20033, li_20038, li_20124, li_32767, li_65535, li_1103515245, li_12345, li_m, sx_grd, sx_clamp, nI_add, sx_sub, pk_mul, sx_le, sx_lt, sx_eq, sx_eqm, sx_meq, sx_lem, sx_mle, sx_ltm, sx_mlt, sx_addm, sx_shl, sx_bit1, sx_bit0, fa_or, uA_s, uA_n, sA_s, sA_n, sx_uA, sx_uAn, sx_sAs, pk_us, pk_un, if_true, if_false, if_pos, if_neg, ob_some, Nat.add_zero, Nat.add_sub_cancel, eq_self, ne_eq, not_true, not_false_iff, false_or, true_or, or_false, or_true, false_and, true_and, and_false, and_true, c.1.1, c.h p hp, c_dwellers c w (show ho V p < 2147483648 by omega), e1]
    refine RT.ite (fun d => ?_) (fun d => ?_)
    · refine hk _ _ ⟨L, S, rfl, e2, e3, e4, fun q h1 h2 => ?_, e6⟩
      by_cases qp : q = p
      · subst qp
        have := e4 q h2
        rw [d] at this
        simpa using this.symm
      · exact e5 q (by omega) h2
    · rw [fa_and]
      have d := ts_nf d
      have sp : S.testBit p = false := by
        have := e4 p hp
        rw [d] at this
        simpa using this.symm
      have sl : S < 2 ^ vn V - 1 := by
        rcases Nat.lt_or_ge S (2 ^ vn V - 1) with y | y
        · exact y
        · have : S = 2 ^ vn V - 1 := by omega
          rw [this, full_bits _ p hp] at sp; cases sp
      have lw : low S = p := by
        obtain ⟨l1, l2⟩ := low_lt w.1.1 sl
        rcases Nat.lt_trichotomy (low S) p with y | y | y
        · rw [e5 _ y l1] at l2; cases l2
        · exact y
        · rw [low_no y] at sp; cases sp
      have rl : dw V (ho V p) &&& L < 2 ^ vn V := Nat.lt_of_le_of_lt Nat.and_le_right e2
      have rb : ∀ q, q < vn V → (dw V (ho V p) &&& L).testBit q = lf V S (ho V p) q := fun q hq => by
        rw [Nat.testBit_and, e4 q hq]
        unfold dw lf
        rw [msk_bit, decide_eq_true hq, Bool.true_and, Bool.and_comm]
      refine RT.bind (c_firstPartner c w rl hp) (fun x hx => ?_)
      have fm := FPc_m w hp sp rb hx
      have al := anN_lt (b := 2 ^ p) e2
      have ab : ∀ q, q < vn V → (anN L (2 ^ p)).testBit q = !(S ||| 2 ^ p).testBit q := fun q hq => by
        rw [anN_bit (by omega), e4 q hq, Nat.testBit_two_pow, or_bit]
        cases S.testBit q <;> simp
      have sl2 : S ||| 2 ^ p < 2 ^ vn V := Nat.or_lt_two_pow e3 (Nat.pow_lt_pow_right (by omega) hp)
      have round : ∀ m T2, f_X12_partnerOf_L15 (nI who) (nI (2 ^ vn V - 1)) M m (nI S) = some (T2, M) → ∃ m', (if p = who then some (x, M) else if x = nI who then some (nI p, M) else f_X12_partnerOf_L15 (nI who) (nI (2 ^ vn V - 1)) M m' (if x = mO then nI (S ||| 2 ^ p) else nI (S ||| 2 ^ p) ||| (nI 1 <<< (x &&& nI 31)))) = some (T2, M) := by
        intro m T2 h9
        cases m with
        | zero => rw [f_X12_partnerOf_L15] at h9; cases h9
        | succ m =>
          obtain ⟨its, i1, i2⟩ := m_round vm w lst (s := S) (who := who) (m := m) sl hw
          rw [lw] at i1 i2
          rw [FPm_one i1 fm] at i2
          rw [i2] at h9
          exact ⟨m, h9⟩
      rcases FPm_lt fm with y | ⟨o9, y1, y2, y3, y4⟩
      · subst y
        simp (disch := omega) only [bnd_nr, li_0, li_1, li_2, li_3, li_4, li_5, li_6, li_7, li_8, li_9, li_10, li_11, li_12, li_13, li_14, li_15, li_16, li_17, li_18, li_19, li_20, li_21, li_22, li_23, li_24, li_25, li_26, li_27, li_28, li_29, li_30, li_31, li_32, li_33, li_34, li_35, li_36, li_37, li_38, li_39, li_40, li_41, li_42, li_43, li_44, li_45, li_46, li_47, li_48, li_49, li_50, li_51, li_52, li_53, li_54, li_55, li_56, li_57, li_58, li_59, li_60, li_61, li_62, li_63, li_64, li_74, li_86, li_87, li_88, li_96, li_97, li_98, li_99, li_100, li_101, li_102, li_103, li_104, li_105, li_107, li_108, li_109, li_110, li_111, li_112, li_114, li_115, li_116, li_117, li_118, li_121, li_122, li_124, li_136, li_148, li_160, li_680, li_200, li_201, li_255, li_700, li_950, li_1000, li_1400, li_3440, li_4096, li_9999, li_10000, li_20000, li_20033, li_20038, li_20124, li_32767, li_65535, li_1103515245, li_12345, li_m, sx_grd, sx_clamp, nI_add, sx_sub, pk_mul, sx_le, sx_lt, sx_eq, sx_eqm, sx_meq, sx_lem, sx_mle, sx_ltm, sx_mlt, sx_addm, sx_shl, sx_bit1, sx_bit0, fa_or, uA_s, uA_n, sA_s, sA_n, sx_uA, sx_uAn, sx_sAs, pk_us, pk_un, if_true, if_false, if_pos, if_neg, ob_some, Nat.add_zero, Nat.add_sub_cancel, eq_self, ne_eq, not_true, not_false_iff, false_or, true_or, or_false, or_true, false_and, true_and, and_false, and_true, sx_andn]
        refine hk _ _ ⟨_, S ||| 2 ^ p, rfl, al, sl2, ab, fun q h1 h2 => ?_, ?_⟩
        · rw [or_bit]
          by_cases qp : q = p
          · subst qp; simp
          · rw [e5 q (by omega) h2]; rfl
        · rcases e6 with ⟨a, m, hm, zm⟩ | ⟨a, b⟩
          · obtain ⟨m2, h9⟩ := round m T hm
            by_cases pw9 : p = who
            · rw [if_pos pw9] at h9
              refine Or.inr ⟨by rw [or_bit, pw9]; simp, ?_⟩
              have := Option.some.inj h9
              rw [zm]; exact congrArg Prod.fst this
            · rw [if_neg pw9, if_neg (by rw [sx_meq (by omega)]; exact fun t => t), if_pos rfl] at h9
              exact Or.inl ⟨by rw [or_bit, a, decide_eq_false pw9]; rfl, m2, h9, zm⟩
          · exact Or.inr ⟨by rw [or_bit, a]; rfl, b⟩
      · subst y4
        simp (disch := omega) only [bnd_nr, li_0, li_1, li_2, li_3, li_4, li_5, li_6, li_7, li_8, li_9, li_10, li_11, li_12, li_13, li_14, li_15, li_16, li_17, li_18, li_19, li_20, li_21, li_22, li_23, li_24, li_25, li_26, li_27, li_28, li_29, li_30, li_31, li_32, li_33, li_34, li_35, li_36, li_37, li_38, li_39, li_40, li_41, li_42, li_43, li_44, li_45, li_46, li_47, li_48, li_49, li_50, li_51, li_52, li_53, li_54, li_55, li_56, li_57, li_58, li_59, li_60, li_61, li_62, li_63, li_64, li_74, li_86, li_87, li_88, li_96, li_97, li_98, li_99, li_100, li_101, li_102, li_103, li_104, li_105, li_107, li_108, li_109, li_110, li_111, li_112, li_114, li_115, li_116, li_117, li_118, li_121, li_122, li_124, li_136, li_148, li_160, li_680, li_200, li_201, li_255, li_700, li_950, li_1000, li_1400, li_3440, li_4096, li_9999, li_10000, li_20000, li_20033, li_20038, li_20124, li_32767, li_65535, li_1103515245, li_12345, li_m, sx_grd, sx_clamp, nI_add, sx_sub, pk_mul, sx_le, sx_lt, sx_eq, sx_eqm, sx_meq, sx_lem, sx_mle, sx_ltm, sx_mlt, sx_addm, sx_shl, sx_bit1, sx_bit0, fa_or, uA_s, uA_n, sA_s, sA_n, sx_uA, sx_uAn, sx_sAs, pk_us, pk_un, if_true, if_false, if_pos, if_neg, ob_some, Nat.add_zero, Nat.add_sub_cancel, eq_self, ne_eq, not_true, not_false_iff, false_or, true_or, or_false, or_true, false_and, true_and, and_false, and_true, sx_andn]
        have al2 := anN_lt (b := 2 ^ o9) al
        refine hk _ _ ⟨_, S ||| 2 ^ p ||| 2 ^ o9, rfl, al2, Nat.or_lt_two_pow sl2 (Nat.pow_lt_pow_right (by omega) y1), fun q hq => ?_, fun q h1 h2 => ?_, ?_⟩
        · rw [anN_bit (by omega), ab q hq, Nat.testBit_two_pow, or_bit (S ||| 2 ^ p)]
          cases (S ||| 2 ^ p).testBit q <;> simp
        · rw [or_bit, or_bit]
          by_cases qp : q = p
          · subst qp; simp
          · rw [e5 q (by omega) h2]; rfl
        · simp (disch := omega) only [uA_s, uA_n, sA_s, sA_n, pk_us, pk_un]
          rcases e6 with ⟨a, m, hm, zm⟩ | ⟨a, b⟩
          · obtain ⟨m2, h9⟩ := round m T hm
            by_cases pw9 : p = who
            · rw [if_pos pw9] at h9
              refine Or.inr ⟨by rw [or_bit, or_bit, pw9]; simp, ?_⟩
              have h8 := congrArg Prod.fst (Option.some.inj h9)
              subst pw9
              rw [pk_un (by omega), pk_us]; exact h8
            · rw [if_neg pw9] at h9
              by_cases ow : o9 = who
              · rw [if_pos (by rw [ow])] at h9
                refine Or.inr ⟨by rw [or_bit, ow]; simp, ?_⟩
                have h8 := congrArg Prod.fst (Option.some.inj h9)
                subst ow
                rw [pk_us]; exact h8
              · rw [if_neg (fun z9 => ow ((nI_eq (by omega) (by omega)).mp z9)), if_neg (by rw [sx_eqm (by omega)]; exact fun t => t), sx_shl (by omega), fa_or] at h9
                refine Or.inl ⟨by rw [or_bit, or_bit, a, decide_eq_false pw9, decide_eq_false ow]; rfl, m2, h9, ?_⟩
                rw [pk_un (by omega), pk_un (by omega)]; exact zm
          · refine Or.inr ⟨by rw [or_bit, or_bit, a]; rfl, ?_⟩
            have n1 : who ≠ p := fun z9 => by rw [z9, sp] at a; cases a
            have n2 : who ≠ o9 := fun z9 => by rw [z9, y3] at a; cases a
            rw [pk_un n2, pk_un n1]; exact b
