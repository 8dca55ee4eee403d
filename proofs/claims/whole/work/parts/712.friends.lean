/-! a line of friends -/
def fAdd (F : FD) (a b : Nat) : FD := (F.1 + 1, fun k => if k = F.1 then a else F.2.1 k, fun k => if k = F.1 then b else F.2.2 k)
section FRS
variable {X : TX} {ut : Nat → Int32} {M0 M : MS} {S : SD} {C : List Nat} {v vv vf vp vk : Ob} {j : Nat}
theorem c_fadd {F : FD} {a b : Nat} (f : FC vf F) (h : F.1 < 12) : RT (f_X3_add vf (nI a) (nI b)) (fun r => FC r (fAdd F a b)) := by
  unfold f_X3_add
  simp (disch := omega) only [bnd_nr, li_0, li_1, li_2, li_3, li_4, li_5, li_6, li_7, li_8, li_9, li_10, li_11, li_12, li_13, li_14, li_15, li_16, li_17, li_18, li_19, li_20, li_21, li_22, li_23, li_24, li_25, li_26, li_27, li_28, li_29, li_30, li_31, li_32, li_33, li_34, li_35, li_36, li_37, li_38, li_39, li_40, li_41, li_42, li_43, li_44, li_45, li_46, li_47, li_48, li_49, li_50, li_51, li_52, li_53, li_54, li_55, li_56, li_57, li_58, li_59, li_60, li_61, li_62, li_63, li_64, li_74, li_86, li_87, li_88, li_96, li_97, li_98, li_99, li_100, li_101, li_102, li_103, li_104, li_105, li_107, li_108, li_109, li_110, li_111, li_112, li_114, li_115, li_116, li_117, li_118, li_121, li_122, li_124, li_136, li_148, li_160, li_680, li_200, li_201, li_255, li_700, li_950, li_1000, li_1400, li_3440, li_4096, li_9999, li_10000, li_20000, li_20033, li_20038, li_20124, li_32767, li_65535, li_1103515245, li_12345, li_m, sx_grd, sx_clamp, nI_add, sx_sub, pk_mul, sx_le, sx_lt, sx_eq, sx_eqm, sx_meq, sx_lem, sx_mle, sx_ltm, sx_mlt, sx_addm, sx_shl, sx_bit1, sx_bit0, fa_or, uA_s, uA_n, sA_s, sA_n, sx_uA, sx_uAn, sx_sAs, pk_us, pk_un, if_true, if_false, if_pos, if_neg, ob_some, Nat.add_zero, Nat.add_sub_cancel, eq_self, ne_eq, not_true, not_false_iff, false_or, true_or, or_false, or_true, false_and, true_and, and_false, and_true, f.1]
  refine RT.ret ⟨?_, fun k hk => ?_⟩
  · simp (disch := omega) only [pk_us, pk_un] <;> rfl
  · have hk : k < F.1 + 1 := hk
    show uA (uA vf.2 1 F.1 (nI a)) 2 F.1 (nI b) 1 k = nI (if k = F.1 then a else F.2.1 k) ∧ uA (uA vf.2 1 F.1 (nI a)) 2 F.1 (nI b) 2 k = nI (if k = F.1 then b else F.2.2 k)
    by_cases e : k = F.1
    · subst e
      rw [if_pos rfl, if_pos rfl]
      simp (disch := omega) only [uA_s, uA_n, pk_us, pk_un]
      exact ⟨trivial, trivial⟩
    · rw [if_neg e, if_neg e]
      simp (disch := omega) only [uA_s, uA_n, pk_us, pk_un]
      exact f.2 k (by omega)
theorem FOK_add {F : FD} {n a b : Nat} (f : FOK F n) (h : F.1 < 12) (ha : a < n) (hb : b < n) (hn : a ≠ b) : FOK (fAdd F a b) n := by
  refine ⟨by show F.1 + 1 ≤ 12; omega, fun k hk => ?_⟩
  have hk : k < F.1 + 1 := hk
  show (if k = F.1 then a else F.2.1 k) < n ∧ (if k = F.1 then b else F.2.2 k) < n ∧ (if k = F.1 then a else F.2.1 k) ≠ (if k = F.1 then b else F.2.2 k)
  by_cases e : k = F.1
  · rw [if_pos e, if_pos e]; exact ⟨ha, hb, hn⟩
  · rw [if_neg e, if_neg e]; exact f.2 k (by omega)
/-- the reference looks whether they are friends: told already -/
theorem m_frBad {x y : Int32} {f n : Nat} (h9 : M.1 9 = nI f) (f0 : f ≠ 0) (f5 : f ≤ 5) (h21 : M.1 21 = nI n) (hn : n ≤ 12) {i : Nat} (hi : i ≤ n) : ∀ u, n < u + i → f_X12_readsFriends_L50 x y u (nI i) M = some M := by
  intro u
  induction u generalizing i with
  | zero => intro h; omega
  | succ u ih =>
    intro h
    have wr : f_X12_wrong M 4 = some M := by
      unfold f_X12_wrong
      rw [if_neg (by rw [h9]; exact nI_ne0 (by omega) (by omega))]
    unfold f_X12_readsFriends_L50
    rw [h21]
    by_cases e : i = n
    · subst e
      rw [if_pos (nI_le (Nat.le_refl _) (by omega)), isGood_0 h9 f0 f5, ob_some, if_pos (show nI 0 = 0 from rfl)]
    · have nx : f_X12_readsFriends_L50 x y u (nI i + 1) M = some M := by rw [nI_1]; exact ih (by omega) (by omega)
      have j110 : f_X12_readsFriends_J110 (f_X12_readsFriends_L50 x y u) x y (nI i) M = some M := by
        unfold f_X12_readsFriends_J110
        rw [wr, ob_some, bnd_nr, nx]
      have j84 : f_X12_readsFriends_J84 (f_X12_readsFriends_L50 x y u) x y (nI i) M = some M := by
        unfold f_X12_readsFriends_J84
        rw [show (2 : Int32) * nI i = nI (2 * i) from pk_mul 2 i, sx_grd (by omega) (by omega), show nI (2 * i) + (1 : Int32) = nI (2 * i + 1) from nI_1 _, sx_grd (by omega) (by omega), j110, bnd_nr, nx]
        split
        · split <;> rfl
        · rfl
      rw [if_neg (nI_ge (by omega) (by omega)), show (2 : Int32) * nI i = nI (2 * i) from pk_mul 2 i, sx_grd (by omega) (by omega), show nI (2 * i) + (1 : Int32) = nI (2 * i + 1) from nI_1 _, sx_grd (by omega) (by omega), j110, j84]
      split
      · split <;> rfl
      · rfl
theorem m_fr50 {F : FD} {a b n0 : Nat} (h : TK X M j) (fm : FMn M F) (fk : FOK F n0) (h12 : n0 ≤ 12) (ha : a < n0) (hb : b < n0) (lt : F.1 < 12) : ∀ u i, i ≤ F.1 → F.1 < u + i → adB F i a b = false → RT (f_X12_readsFriends_L50 (nI a) (nI b) u (nI i) M) (fun r => (adB F F.1 a b = true → r = (upd (upd M.1 9 (nI 4)) 10 (nI (ts X j)), M.2)) ∧ (adB F F.1 a b = false → TK X r (j + 1) ∧ TF ((upd M.1 21 (nI (F.1 + 1)), M.2.1, uA (uA M.2.2 5 (2 * F.1) (nI a)) 5 (2 * F.1 + 1) (nI b)) : MS) r)) := by
  intro n
  induction n with
  | zero => intro i h1 h2; omega
  | succ n ih =>
    intro i hi hf hp
    refine RT.cps (fun Q hQ => ?_)
    by_cases ei : i = F.1
    · subst ei
      unfold f_X12_readsFriends_L50
      rw [fm.1]
      refine RT.itT (nI_le (Nat.le_refl _) (by omega)) ?_
      rw [isGood_1 h.2.2.1, ob_some]
      refine RT.itF (show ¬ nI 1 = 0 by decide) ?_
      rw [show (2 : Int32) * nI F.1 = nI (2 * F.1) from pk_mul 2 _, sx_grd (by omega) (by omega), sx_clamp (by omega), bnd_nr]
      dsimp only
      rw [fm.1, show (2 : Int32) * nI F.1 = nI (2 * F.1) from pk_mul 2 _, show nI (2 * F.1) + (1 : Int32) = nI (2 * F.1 + 1) from nI_1 _, sx_grd (by omega) (by omega), sx_clamp (by omega), bnd_nr, bnd_nr]
      dsimp only
      rw [fm.1, nI_1]
      have k1 : TK X ((upd M.1 21 (nI (F.1 + 1)), M.2.1, uA (uA M.2.2 5 (2 * F.1) (nI a)) 5 (2 * F.1 + 1) (nI b)) : MS) j := h.fr (fun k hk => by simp (disch := omega) only [pk_us, pk_un]) rfl (by simp (disch := omega) only [uA_s, uA_n])
      refine RT.bind k1.take (fun r hr => RT.done hQ ⟨fun e => ?_, fun _ => hr⟩)
      rw [hp] at e; cases e
    · have hi : i < F.1 := by omega
      have fi := fk.2 i hi
      obtain ⟨f1, f2⟩ := fm.2 i hi
      have yes : ((F.2.1 i = a ∧ F.2.2 i = b) ∨ (F.2.2 i = a ∧ F.2.1 i = b)) → RT (f_X12_readsFriends_J110 (f_X12_readsFriends_L50 (nI a) (nI b) n) (nI a) (nI b) (nI i) M) Q := by
        intro e
        have ad9 : adB F F.1 a b = true := adB_iff.mpr ⟨i, hi, e⟩
        have bl := BL_wrong (X := X) (j := j) (f := 4) (LF.refl M)
        unfold f_X12_readsFriends_J110
        rw [show (4 : Int32) = nI 4 from rfl, h.wrong, ob_some, bnd_nr, nI_1, m_frBad (f := 4) (n := F.1) bl.2.1 (by omega) (by omega) (by show upd (upd M.1 9 (nI 4)) 10 (nI (ts X j)) 21 = _; rw [pk_un (by omega), pk_un (by omega)]; exact fm.1) (by omega) (by omega) n (by omega)]
        exact RT.done hQ ⟨fun _ => rfl, fun z => by rw [ad9] at z; cases z⟩
      have no : ¬ ((F.2.1 i = a ∧ F.2.2 i = b) ∨ (F.2.2 i = a ∧ F.2.1 i = b)) → RT (f_X12_readsFriends_L50 (nI a) (nI b) n (nI i + 1) M) Q := by
        intro e
        rw [nI_1]
        refine RT.weak (ih (i + 1) (by omega) (by omega) ?_) hQ
        cases y : adB F (i + 1) a b
        · rfl
        · obtain ⟨q, q1, q2⟩ := adB_iff.mp y
          by_cases e9 : q = i
          · subst e9; exact absurd q2 e
          · have : adB F i a b = true := adB_iff.mpr ⟨q, by omega, q2⟩
            rw [hp] at this; cases this
      have j84 : ¬ (F.2.1 i = a ∧ F.2.2 i = b) → RT (f_X12_readsFriends_J84 (f_X12_readsFriends_L50 (nI a) (nI b) n) (nI a) (nI b) (nI i) M) Q := by
        intro ne1
        unfold f_X12_readsFriends_J84
        rw [show (2 : Int32) * nI i = nI (2 * i) from pk_mul 2 i, sx_grd (by omega) (by omega), sx_clamp (by omega), f1, show nI (2 * i) + (1 : Int32) = nI (2 * i + 1) from nI_1 _, sx_grd (by omega) (by omega), sx_clamp (by omega), f2, bnd_nr]
        refine RT.ite (fun c1 => ?_) (fun c1 => no (fun e => ?_))
        · have c1 := (nI_eq (by omega) (by omega)).mp c1
          refine RT.ite (fun c2 => yes (Or.inr ⟨(nI_eq (by omega) (by omega)).mp c2, c1⟩)) (fun c2 => no (fun e => ?_))
          rcases e with e | e
          · exact ne1 e
          · exact c2 (by rw [e.1])
        · rcases e with e | e
          · exact ne1 e
          · exact c1 (by rw [e.2])
      unfold f_X12_readsFriends_L50
      rw [fm.1]
      refine RT.itF (nI_ge hi (by omega)) ?_
      rw [show (2 : Int32) * nI i = nI (2 * i) from pk_mul 2 i, sx_grd (by omega) (by omega), sx_clamp (by omega), f1, show nI (2 * i) + (1 : Int32) = nI (2 * i + 1) from nI_1 _, sx_grd (by omega) (by omega), sx_clamp (by omega), f2]
      refine RT.ite (fun c1 => ?_) (fun c1 => j84 (fun e => c1 (by rw [e.1])))
      have c1 := (nI_eq (by omega) (by omega)).mp c1
      exact RT.ite (fun c2 => yes (Or.inl ⟨c1, (nI_eq (by omega) (by omega)).mp c2⟩)) (fun c2 => j84 (fun e => c2 (by rw [e.2])))
theorem l_friends (b : TB X ut) (c : CG X S (v, vv, vf, vp, vk) j) (g : MG X M0 S C M j) (s : SOK_ S) (hj : j ≤ X.2) (hw : tw X j = 10) : RT (f_X6_friendsLine v vv vf ut 700) (fun r => RT (f_X12_line M) (fun m => LR X M0 j (r.1, r.2.1, vv, r.2.2, vp, vk) m)) := by
  obtain ⟨c1, c2, c3, c4, c5⟩ := c
  dsimp only at c1 c2 c3 c4 c5
  obtain ⟨s1, s2, s3, s4⟩ := s
  have n12 := s1.1
  have f12 := s2.1
  have hn := b.1
  have tj := tk_j (X := X) (j := j) (by rw [tw_1 (by omega)]; omega)
  have g1 := g.1
  have ml : f_X12_line M = if S.2.1.1 = 12 then f_X12_line_J83 1 M else f_X12_line_J83 0 M := by
    unfold f_X12_line
    rw [m_knownWord g1.1 g1.2.1, ob_some, hw, if_pos (show (10 : Nat) < 16 by omega), if_neg (show ¬ nI 10 = 9 by decide), if_neg (show ¬ nI 10 = 6 by decide), if_pos (show nI 10 = 10 from rfl), g.2.2.2.1.1]
    by_cases e : S.2.1.1 = 12
    · rw [if_pos e, if_pos (by rw [e]; rfl)]
    · rw [if_neg e, if_neg (show ¬ nI S.2.1.1 = (12 : Int32) from fun z => e ((nI_eq (b := 12) (by omega) (by omega)).mp z))]
  rw [ml]
  unfold f_X6_friendsLine
  rw [c3.1]
  by_cases e : S.2.1.1 = 12
  · refine RT.itF (by rw [e]; decide) (RT.ret ?_)
    rw [if_pos e]
    unfold f_X12_line_J83
    rw [m_begins2 g1, ob_some, if_pos (show nI 0 = 0 from rfl)]
    have bl := g.bad (f := 2)
    exact ⟨_, j191_bad bl (by omega) (by omega), Or.inr ⟨2, j, by omega, by omega, rfl, c1.2.1, bl⟩⟩
  · rw [if_neg e]
    refine RT.itT (show nI S.2.1.1 < nI 12 from nI_lt (by omega) (by omega)) ?_
    unfold f_X12_line_J83
    obtain ⟨q1, e1, f1, k1, tf1⟩ := m_begins0 g1
    rw [e1, ob_some, f1, if_neg (show ¬ nI 1 = 0 by decide)]
    have gA := g.tf k1 tf1 (by omega)
    generalize q1.2 = M1 at *
    obtain ⟨v1, e2, t1, _, _⟩ := c_next b c1
    rw [e2, ob_some, c_told b t1 c2.1.1 n12, ob_some]
    have tp5 := tpN_le X (dvn S.1) (j + 1)
    unfold f_X12_readsFriends
    rw [gA.2.2.1.1, m_oneOf k1 n12, ob_some]
    by_cases tp : tpN X (dvn S.1) (j + 1) = 0
    · obtain ⟨k2, l4, vn1⟩ := tpN_0 tp
      have tj1 := tk_j (X := X) (j := j + 1) (by omega)
      rw [tp, if_pos (show nI 0 = 0 from rfl), if_pos rfl, if_neg (show ¬ nI 1 = 0 by decide), bnd_nr, bnd_nr, t1.2.2.2.2 k2]
      dsimp only
      rw [k1.2.1.2.2.2.2.1 k2]
      obtain ⟨v2, e3, t2, _, _⟩ := c_next b t1
      rw [e3, ob_some, c_told b t2 c2.1.1 n12, ob_some]
      obtain ⟨M2, e4, k3, tf2⟩ := k1.take
      rw [e4, ob_some]
      have gB := gA.tf k3 tf2 (by omega)
      have tp5b := tpN_le X (dvn S.1) (j + 1 + 1)
      rw [gB.2.2.1.1, m_oneOf k3 n12, ob_some]
      by_cases tq : tpN X (dvn S.1) (j + 1 + 1) = 0
      · obtain ⟨k4, l5, vn2⟩ := tpN_0 tq
        have tj2 := tk_j (X := X) (j := j + 1 + 1) (by omega)
        rw [tq, if_pos (show nI 0 = 0 from rfl), if_pos rfl, if_neg (show ¬ nI 1 = 0 by decide), bnd_nr, t2.2.2.2.2 k4]
        dsimp only
        rw [k3.2.1.2.2.2.2.1 k4]
        have bl4 := BL_wrong (X := X) (j := j + 1 + 1) (f := 4) gB.2.1
        by_cases ab : tv X (j + 1 + 1) = tv X (j + 1)
        · rw [if_pos (by rw [ab]), if_pos (by rw [ab]), show (4 : Int32) = nI 4 from rfl, k3.wrong, ob_some]
          rw [show (0 : Int32) = nI 0 from rfl, m_frBad (f := 4) (n := S.2.1.1) bl4.2.1 (by omega) (by omega) (by show upd (upd M2.1 9 (nI 4)) 10 (nI (ts X (j + 1 + 1))) 21 = _; rw [pk_un (by omega), pk_un (by omega)]; exact gB.2.2.2.1.1) (by omega) (Nat.zero_le _) FUEL (by unfold FUEL; omega), ob_some]
          exact RT.ret ⟨_, j191_bad bl4 (by omega) (by omega), Or.inr ⟨4, j + 1 + 1, by omega, by omega, rfl, t2.2.1, bl4⟩⟩
        · rw [if_neg (fun z => ab ((nI_eq (by omega) (by omega)).mp z)), if_neg (fun z => ab ((nI_eq (by omega) (by omega)).mp z).symm), c_of c3 s2 n12 (by omega), ob_some]
          have fo : foM S.2.1 (tv X (j + 1)) < 2 ^ 12 := msk_lt _ _
          have tb : (foM S.2.1 (tv X (j + 1))).testBit (tv X (j + 1 + 1)) = adB S.2.1 S.2.1.1 (tv X (j + 1)) (tv X (j + 1 + 1)) := by
            unfold foM
            rw [msk_bit, decide_eq_true (show tv X (j + 1 + 1) < 12 by omega), Bool.true_and]
          obtain ⟨M3, e5, mf1, mf2⟩ := m_fr50 k3 gB.2.2.2.1 s2 n12 vn1 vn2 (by omega) FUEL 0 (Nat.zero_le _) (by unfold FUEL; omega) (by unfold adB; rfl)
          rw [show (0 : Int32) = nI 0 from rfl, e5, ob_some, show (1 : Int32) = nI 1 from rfl]
          have hE : ((nI (foM S.2.1 (tv X (j + 1))) >>> (nI (tv X (j + 1 + 1)) &&& 31) &&& nI 1) = nI 0) = ((foM S.2.1 (tv X (j + 1))).testBit (tv X (j + 1 + 1)) = false) := sx_bit0 (by omega) (by omega)
          cases ad9 : adB S.2.1 S.2.1.1 (tv X (j + 1)) (tv X (j + 1 + 1))
          · rw [if_pos (Eq.mpr hE (tb.trans ad9))]
            obtain ⟨vf1, e6, fc1⟩ := c_fadd (a := tv X (j + 1)) (b := tv X (j + 1 + 1)) c3 (by omega)
            rw [e6, ob_some]
            obtain ⟨v3, e7, t3, _, _⟩ := c_next b t2
            rw [e7, ob_some]
            obtain ⟨r3, e8, le1, le2⟩ := c_lineEnd b t3
            rw [e8, ob_some]
            refine RT.ret ?_
            obtain ⟨k5, tf3⟩ := mf2 ad9
            obtain ⟨_, b2, b3, b4, ⟨b5, b8⟩, b6, b7⟩ := gB
            have gC0 : MG X M0 (S.1, fAdd S.2.1 (tv X (j + 1)) (tv X (j + 1 + 1)), S.2.2) C ((upd M2.1 21 (nI (S.2.1.1 + 1)), M2.2.1, uA (uA M2.2.2 5 (2 * S.2.1.1) (nI (tv X (j + 1)))) 5 (2 * S.2.1.1 + 1) (nI (tv X (j + 1 + 1)))) : MS) (j + 1 + 1) := by
              refine ⟨k3.fr (fun k hk => ?_) rfl ?_, ⟨fun k h1 h2 h3 => ?_, fun a ha => ?_⟩, b3.fr ?_ ?_, ⟨?_, fun k hk => ?_⟩, ⟨⟨?_, ?_⟩, b8⟩, ?_, ?_⟩
              · simp (disch := omega) only [pk_us, pk_un]
              · simp (disch := omega) only [uA_s, uA_n]
              · show upd M2.1 21 (nI (S.2.1.1 + 1)) k = _
                rw [pk_un (by omega)]; exact b2.1 k h1 h2 h3
              · show uA (uA M2.2.2 5 (2 * S.2.1.1) (nI (tv X (j + 1)))) 5 (2 * S.2.1.1 + 1) (nI (tv X (j + 1 + 1))) a = _
                rw [uA_n (by omega), uA_n (by omega)]; exact b2.2 a (by omega)
              · simp (disch := omega) only [pk_us, pk_un]
              · simp (disch := omega) only [uA_s, uA_n]
              · show upd M2.1 21 (nI (S.2.1.1 + 1)) 21 = nI (S.2.1.1 + 1)
                rw [pk_us]
              · have hk : k < S.2.1.1 + 1 := hk
                show _ = nI (if k = S.2.1.1 then tv X (j + 1) else S.2.1.2.1 k) ∧ _ = nI (if k = S.2.1.1 then tv X (j + 1 + 1) else S.2.1.2.2 k)
                by_cases ek : k = S.2.1.1
                · subst ek
                  rw [if_pos rfl, if_pos rfl]
                  simp (disch := omega) only [uA_s, uA_n, pk_us, pk_un]
                  exact ⟨trivial, trivial⟩
                · rw [if_neg ek, if_neg ek]
                  simp (disch := omega) only [uA_s, uA_n, pk_us, pk_un]
                  exact b4.2 k (by omega)
              · simp (disch := omega) only [pk_us, pk_un]; exact b5.1
              · simp (disch := omega) only [uA_s, uA_n]; exact b5.2
              · simp (disch := omega) only [pk_us, pk_un]; exact b6
              · simp (disch := omega) only [pk_us, pk_un]; exact b7
            have gC := gC0.tf k5 tf3 (by omega)
            by_cases k9 : tk X (j + 1 + 1 + 1) = 59
            · have tj3 := tk_j (X := X) (j := j + 1 + 1 + 1) (by omega)
              obtain ⟨u1, u2⟩ := le1 k9
              exact RT.weak (j191_end gC.1 k9) (fun m ⟨m1, m2⟩ => Or.inl ⟨u1, (S.1, fAdd S.2.1 (tv X (j + 1)) (tv X (j + 1 + 1)), S.2.2), C, j + 1 + 1 + 1 + 1, by omega, by omega, ⟨u2, c2, fc1, c4, c5⟩, gC.tf m1 m2 (by omega), s1, FOK_add s2 (by omega) vn1 vn2 (fun z => ab z.symm), s3, s4⟩)
            · obtain ⟨u1, u2⟩ := le2 k9
              refine RT.weak (j191_mis gC.1 gC.2.1 k9) (fun m hm => Or.inr ⟨1, j + 1 + 1 + 1, by omega, by omega, u1, ?_, hm⟩)
              show r3.2.1 6 = _
              rw [u2]; exact t3.2.1
          · rw [if_neg (fun z => by have z2 := Eq.mp hE z; rw [tb, ad9] at z2; cases z2), mf1 ad9]
            exact RT.ret ⟨_, j191_bad bl4 (by omega) (by omega), Or.inr ⟨4, j + 1 + 1, by omega, by omega, rfl, t2.2.1, bl4⟩⟩
      · rw [if_neg (nI_ne0 (by omega) (by omega)), if_neg tq, if_pos (show nI 0 = 0 from rfl), ob_some]
        have bl := BL_wrong (X := X) (j := j + 1 + 1) (f := tpN X (dvn S.1) (j + 1 + 1)) gB.2.1
        exact RT.ret ⟨_, j191_bad bl tq tp5b, Or.inr ⟨_, j + 1 + 1, tq, tp5b, rfl, t2.2.1, bl⟩⟩
    · rw [if_neg (nI_ne0 (by omega) (by omega)), if_neg tp, if_pos (show nI 0 = 0 from rfl), ob_some]
      have bl := BL_wrong (X := X) (j := j + 1) (f := tpN X (dvn S.1) (j + 1)) gA.2.1
      exact RT.ret ⟨_, j191_bad bl tp tp5, Or.inr ⟨_, j + 1, tp, tp5, rfl, t1.2.1, bl⟩⟩
end FRS
