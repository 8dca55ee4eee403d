/-! a text, read by both: the whole of it -/
def ru (r : RLs) : RU := (r.1, cof r.2, r.2.length)
theorem RLok.ru {r : RLs} {lo hi : Nat} (h : RLok r lo hi) : RUok (ru r) lo hi := fun e => by
  have e : r.1 = true := e
  obtain ⟨a, b, c, d⟩ := h e
  exact RUok_of a b c d rfl
theorem RCn.co {R : Ob} {r : RLs} (h : RCn R r) : RCo R (ru r) := ⟨h.1, fun e => ⟨h.2.1, fun i hi => (h.2.2.1 e).2 i hi⟩⟩
theorem m_right1 {M : MS} {x : Int32} (h : M.1 0 = 0) : f_X12_right M 1 x = some (1, M) := by
  unfold f_X12_right f_X12_right_J16
  rw [if_pos h, if_neg (show ¬ (1 : Int32) = 0 by decide), if_pos h]
theorem m_right0 {M : MS} {x : Int32} (h : M.1 0 = 0) (hx : x ≠ 0) : f_X12_right M 0 x = some (0, upd M.1 0 x, M.2) := by
  unfold f_X12_right f_X12_right_J16
  rw [if_pos h, if_pos rfl, bnd_nr, if_neg (show ¬ ((upd M.1 0 x, M.2) : MS).1 0 = 0 from by
    show ¬ upd M.1 0 x 0 = 0
    rw [pk_us]; exact hx)]
section VLG
variable {X : TX} {ut : Nat → Int32} {M0 M : MS} {S : SD} {C : List Nat} {v vv vf vp vk : Ob} {j : Nat}
def VF (M r : MS) : Prop := (∀ k, (k = 0 ∨ (5 ≤ k ∧ k ≤ 8) ∨ (28 < k ∧ k ≠ 36 ∧ k ≠ 48 ∧ k ≠ 53)) → r.1 k = M.1 k) ∧ ∀ a, (a = 0 ∨ a = 3 ∨ a = 4 ∨ 10 < a) → r.2.2 a = M.2.2 a
def VS (M0 : MS) (S : SD) (q : Int32 × MS) : Prop := q.1 = 0 ∧ VM q.2 0 (dFin S.1) ∧ FM q.2 S.2.1 ∧ RMo q.2 (q.2.1 3) (ru S.2.2.1) ∧ RMo q.2 (q.2.1 4) (ru S.2.2.2) ∧ (q.2.1 36 = 0 ∧ q.2.1 48 = 0 ∧ q.2.1 53 = 0) ∧ q.2.1 10 = mO ∧ VF M0 q.2
theorem RAt.mo {N : MS} {x : Int32} {r : RLs} (h : RAt C x r) (c : cdl (N.2.2 2) C) (hl : C.length ≤ 1400) : RMo N x (ru r) := by
  refine ⟨h.1, fun e => ?_⟩
  obtain ⟨A, B, h1, h2⟩ := h.2 e
  rw [h1] at c hl
  refine ⟨A.length, h2, RM_of (L := r.2) ?_ (cdl_pre c)⟩
  simp only [List.length_append, List.length_singleton] at hl ⊢
  omega
theorem m_128 (g : MG X M0 S C M j) (s : SOK_ S) (hj : j ≤ X.2) : RT (f_X12_village_J128 M) (VS M0 S) := by
  refine RT.cps (fun Q hQ => ?_)
  obtain ⟨g1, g2, g3, g4, ⟨g5, g8⟩, g6, g7⟩ := g
  have n7 := g1.1.2.1
  obtain ⟨s1, s2, s3, s4⟩ := s
  have n12 := s1.1
  unfold f_X12_village_J128
  rw [isGood_1 g1.2.2.1, ob_some]
  refine RT.itF (show ¬ nI 1 = 0 by decide) ?_
  rw [bnd_nr, bnd_nr, bnd_nr, bnd_nr]
  obtain ⟨c1, e1, k1⟩ := m_copies (a := M.2.2 5) (z := M.2.2 1) (n := 24) (m := 24) (by omega) (by omega)
  obtain ⟨c2, e2, k2⟩ := m_copies (a := M.2.2 7) (z := M.2.2 2) (n := 1400) (m := 1400) (by omega) (by omega)
  show RT ((f_X12_copies (M.2.2 5) (M.2.2 1) 24 24).bind _) Q
  rw [e1, ob_some, bnd_nr]
  show RT ((f_X12_copies (sA M.2.2 1 c1 7) (sA M.2.2 1 c1 2) 1400 1400).bind _) Q
  rw [sA_n (show (7 : Nat) ≠ 1 by omega), sA_n (show (2 : Nat) ≠ 1 by omega), e2, ob_some, bnd_nr]
  have i1 : (upd (upd (upd (upd M.1 1 (M.1 20)) 2 (upd M.1 1 (M.1 20) 21)) 3 (upd (upd M.1 1 (M.1 20)) 2 (upd M.1 1 (M.1 20) 21) 22)) 4 (upd (upd (upd M.1 1 (M.1 20)) 2 (upd M.1 1 (M.1 20) 21)) 3 (upd (upd M.1 1 (M.1 20)) 2 (upd M.1 1 (M.1 20) 21) 22) 23)) = upd (upd (upd (upd M.1 1 (M.1 20)) 2 (M.1 21)) 3 (M.1 22)) 4 (M.1 23) := by
    simp (disch := omega) only [pk_us, pk_un]
  show RT (f_X12_village_L208 FUEL 0 ((upd (upd (upd (upd M.1 1 (M.1 20)) 2 (upd M.1 1 (M.1 20) 21)) 3 (upd (upd M.1 1 (M.1 20)) 2 (upd M.1 1 (M.1 20) 21) 22)) 4 (upd (upd (upd M.1 1 (M.1 20)) 2 (upd M.1 1 (M.1 20) 21)) 3 (upd (upd M.1 1 (M.1 20)) 2 (upd M.1 1 (M.1 20) 21) 22) 23), M.2.1, sA (sA M.2.2 1 c1) 2 c2) : MS)) Q
  rw [i1]
  generalize hI : upd (upd (upd (upd M.1 1 (M.1 20)) 2 (M.1 21)) 3 (M.1 22)) 4 (M.1 23) = I
  have I1 : I 1 = nI (dvn S.1) := by rw [← hI]; simp (disch := omega) only [pk_us, pk_un]; exact g3.1
  have I2 : I 2 = nI S.2.1.1 := by rw [← hI]; simp (disch := omega) only [pk_us, pk_un]; exact g4.1
  have I3 : I 3 = M.1 22 := by rw [← hI]; simp (disch := omega) only [pk_us, pk_un]
  have I4 : I 4 = M.1 23 := by rw [← hI]; simp (disch := omega) only [pk_us, pk_un]
  have Ik : ∀ k, k = 0 ∨ 5 ≤ k → I k = M.1 k := fun k hk => by rw [← hI]; simp (disch := omega) only [pk_us, pk_un]
  refine RT.loop0 (fun n i (z : MS) => f_X12_village_L208 n (nI i) z) 86 (fun i z => z.1 = I ∧ (∀ a, a ≠ 10 → z.2.2 a = sA (sA M.2.2 1 c1) 2 c2 a) ∧ ∀ q, q < i → z.2.2 10 q = M.2.2 6 q) Q ((I, M.2.1, sA (sA M.2.2 1 c1) 2 c2) : MS) (by omega) ⟨rfl, fun _ _ => rfl, fun q hq => absurd hq (Nat.not_lt_zero _)⟩ ?_ ?_
  · intro n z ⟨z1, z2, z3⟩
    show RT (f_X12_village_L208 (n + 1) (nI 86) z) Q
    unfold f_X12_village_L208
    refine RT.itT (show nI 86 ≤ nI 86 by decide) ?_
    refine RT.weak (m_rest (D := S.1) s1 (by rw [z1]; exact I1) (by rw [z3 0 (by omega)]; exact g3.2.1.1) (by rw [z3 1 (by omega)]; exact g3.2.1.2) (fun p hp => ?_) (fun i hi => by rw [z3 i (by omega)]; exact g3.2.2.2 i hi)) (fun q ⟨q1, q2, q3, q4, q5⟩ => hQ q ⟨q1, q2, ?_, ?_, ?_, q3, ?_, ⟨fun k hk => ?_, fun a ha => ?_⟩⟩)
    · rw [z3 (50 + p) (by omega), z3 (2 + p) (by omega), z3 (14 + p) (by omega)]
      exact g3.2.2.1 p hp
    · refine ⟨by rw [q4 2 (by omega) (by omega) (by omega), z1]; exact I2, fun k hk => ?_⟩
      have f12 := s2.1
      rw [q5 1 (by omega), z2 1 (by omega), sA_n (by omega), sA_s, k1 (2 * k) (by omega), k1 (2 * k + 1) (by omega)]
      exact g4.2 k hk
    · rw [q4 3 (by omega) (by omega) (by omega), z1, I3]
      refine g6.mo ?_ (by omega)
      intro i hi
      rw [q5 2 (by omega), z2 2 (by omega), sA_s, k2 i (by omega)]
      exact g5.2 i hi
    · rw [q4 4 (by omega) (by omega) (by omega), z1, I4]
      refine g7.mo ?_ (by omega)
      intro i hi
      rw [q5 2 (by omega), z2 2 (by omega), sA_s, k2 i (by omega)]
      exact g5.2 i hi
    · rw [q4 10 (by omega) (by omega) (by omega), z1, Ik 10 (by omega)]; exact g1.2.2.2
    · rw [q4 k (by omega) (by omega) (by omega), z1, Ik k (by omega)]
      exact g2.1 k (by omega) (by omega) (by omega)
    · rw [q5 a (by omega), z2 a (by omega), sA_n (by omega), sA_n (by omega)]
      exact g2.2 a (by omega)
  · intro n i z hi ⟨z1, z2, z3⟩ hk
    show RT (f_X12_village_L208 (n + 1) (nI i) z) Q
    unfold f_X12_village_L208
    refine RT.itF (show ¬ nI 86 ≤ nI i from nI_ge hi (by omega)) ?_
    rw [sx_grd (by omega) (by omega), sx_grd (by omega) (by omega), sx_clamp (by omega), bnd_nr, bnd_nr, nI_1]
    refine hk _ ⟨z1, fun a ha => ?_, fun q hq => ?_⟩
    · simp (disch := omega) only [uA_n]; exact z2 a ha
    · have e6 : z.2.2 6 i = M.2.2 6 i := by rw [z2 6 (by omega), sA_n (by omega), sA_n (by omega)]
      by_cases e : q = i
      · subst e
        simp (disch := omega) only [uA_s, pk_us]; exact e6
      · simp (disch := omega) only [uA_s, pk_un]; exact z3 q (by omega)
def FF (M0 : MS) (q : MS) : Prop := (∀ k, k ≠ 9 → k ≠ 10 → (k < 13 ∨ 28 < k) → q.1 k = M0.1 k) ∧ (∀ a, a ≠ 4 → (a < 5 ∨ 9 < a) → q.2.2 a = M0.2.2 a) ∧ q.2.2 4 = upd (M0.2.2 4) 0 (M0.2.2 4 0 + 1)
theorem m_128b {f : Nat} (b : BL X M0 M f j) (f0 : f ≠ 0) (f5 : f ≤ 5) : RT (f_X12_village_J128 M) (fun q => q.1 = nI f ∧ q.2.1 10 = nI (ts X j) ∧ FF M0 q.2) := by
  unfold f_X12_village_J128
  rw [isGood_0 b.2.1 f0 f5, ob_some]
  refine RT.itT rfl ?_
  refine RT.grd (by decide) (RT.grd (by decide) ?_)
  rw [bnd_nr]
  refine RT.ret ⟨b.2.1, b.2.2, b.1.1, fun a h1 h2 => ?_, ?_⟩
  · simp (disch := omega) only [uA_n]; exact b.1.2 a h2
  · show uA M.2.2 4 0 (M.2.2 4 0 + 1) 4 = _
    rw [uA_s, b.1.2 4 (by omega)]
def FIN (X : TX) (M0 : MS) (r : Int32 × Ob × Ob × Ob × Ob × Ob) (q : Int32 × MS) : Prop := (r.1 = 0 ∧ ∃ S, SOK_ S ∧ VC r.2.2.1 (dFin S.1) ∧ FC r.2.2.2.1 S.2.1 ∧ RCn r.2.2.2.2.1 S.2.2.1 ∧ RCn r.2.2.2.2.2 S.2.2.2 ∧ VS M0 S q) ∨ ∃ f j', f ≠ 0 ∧ f ≤ 5 ∧ r.1 = nI f ∧ r.2.1.1 6 = nI (ts X j') ∧ ts X j' ≤ 700 ∧ q.1 = nI f ∧ q.2.1 10 = nI (ts X j') ∧ FF M0 q.2
theorem l_read (b : TB X ut) : ∀ (k i m j : Nat) (S : SD) (C : List Nat) (v vv vf vp vk : Ob) (M : MS), 710 ≤ k + j → 710 ≤ m + j → i ≤ j → j ≤ X.2 → CG X S (v, vv, vf, vp, vk) j → MG X M0 S C M j → SOK_ S → RT (f_X6_read_L58 700 ut k 0 (nI i) v vv vf vp vk) (fun r => RT (f_X12_village_L107 m M) (fun q => FIN X M0 r q)) := by
  intro k
  induction k with
  | zero => intro i m j S C v vv vf vp vk M h1 h2 h3 h4; have := b.1; omega
  | succ k ih =>
    intro i m j S C v vv vf vp vk M h1 h2 h3 h4 c g s
    have hn := b.1
    obtain ⟨m, rfl⟩ : ∃ m9, m = m9 + 1 := ⟨m - 1, by omega⟩
    have c1 : TC X v j := c.1
    have st9 := srt_le (tk X j)
    unfold f_X6_read_L58
    rw [c1.1]
    refine RT.itF (nI_nlt (by omega) (by omega)) ?_
    have ml0 : ∀ K : MS → Option (Int32 × MS), f_X12_village_L107 m = K → f_X12_village_L107 (m + 1) M = if tk X j = 0 then f_X12_village_J128 M else (f_X12_line M).bind (fun q54 => K q54) := by
      intro K hK
      subst hK
      rw [show f_X12_village_L107 (m + 1) M = (f_X12_isGood M).bind (fun q17 => (if q17 = 0 then f_X12_village_J128 M else (if (M.1 14) = 0 then f_X12_village_J128 M else (f_X12_line M).bind (fun q54 => f_X12_village_L107 m q54)))) from rfl]
      rw [isGood_1 g.1.2.2.1, ob_some, if_neg (show ¬ nI 1 = 0 by decide), g.1.2.1.2.1]
      by_cases e : tk X j = 0
      · rw [if_pos e, if_pos (by rw [srt_0.mpr e]; rfl)]
      · rw [if_neg e, if_neg (show ¬ nI (srt (tk X j)) = (0 : Int32) from fun z => e (srt_0.mp ((nI_eq (b := 0) (by omega) (by omega)).mp z)))]
    have ml := ml0 _ rfl
    rw [ml]
    by_cases e : tk X j = 0
    · refine RT.itT (show v.1 8 = nI 0 from kdT c1 e) ?_
      rw [if_pos e]
      unfold f_X6_read_J89
      refine RT.itT rfl ?_
      refine RT.bind (c_rest c.2.1 s.1) (fun w hw => RT.ret ?_)
      exact RT.weak (m_128 g s h4) (fun q hq => Or.inl ⟨rfl, S, s, hw, c.2.2.1, c.2.2.2.1, c.2.2.2.2, hq⟩)
    · refine RT.itF (show ¬ v.1 8 = nI 0 from kdF c1 (c := 0) (by omega) e) (RT.itT rfl ?_)
      rw [if_neg e]
      refine RT.bind (l_line b c g s h4) (fun r hr => ?_)
      obtain ⟨M2, e2, lr⟩ := hr
      rw [bnd_nr, nI_1, e2, ob_some]
      rcases lr with ⟨r0, S2, C2, j2, j3, j4, cg, mg, so⟩ | ⟨f, j2, f0, f5, r0, r6, bl⟩
      · rw [r0]
        exact ih (i + 1) m j2 S2 C2 _ _ _ _ _ M2 (by omega) (by omega) (by omega) j4 cg mg so
      · rw [r0]
        obtain ⟨k9, rfl⟩ : ∃ k9, k = k9 + 1 := ⟨k - 1, by omega⟩
        obtain ⟨m9, rfl⟩ : ∃ m9, m = m9 + 1 := ⟨m - 1, by omega⟩
        have cl : f_X6_read_L58 700 ut (k9 + 1) (nI f) (nI (i + 1)) r.2.1 r.2.2.1 r.2.2.2.1 r.2.2.2.2.1 r.2.2.2.2.2 = some (nI f, r.2.1, r.2.2.1, r.2.2.2.1, r.2.2.2.2.1, r.2.2.2.2.2) := by
          unfold f_X6_read_L58 f_X6_read_J89
          rw [if_neg (nI_ne0 (by omega) (by omega)), if_neg (nI_ne0 (by omega) (by omega))]
          split
          · rfl
          · split <;> rfl
        rw [cl]
        refine RT.ret ?_
        unfold f_X12_village_L107
        rw [isGood_0 bl.2.1 f0 f5, ob_some, if_pos (show nI 0 = 0 from rfl)]
        exact RT.weak (m_128b bl f0 f5) (fun q ⟨q1, q2, q3⟩ => Or.inr ⟨f, j2, f0, f5, rfl, r6, by have := ts_le X j2; omega, q1, q2, q3⟩)
/-- the tape, as both have it -/
def TAPE (T : Nat → Nat) (k : Nat) (ut : Nat → Int32) (M : MS) : Prop := ∀ i, i < k → T i < 256 ∧ ut i = sB (T i) ∧ M.2.2 3 i = nI (T i)
/-- the reference's state behind a text -/
def VFo (M r : MS) : Prop := (r.1 0 = 0 ∧ r.1 8 = 0) ∧ (∀ k, (5 ≤ k ∧ k ≤ 7) ∨ (28 < k ∧ k ≠ 36 ∧ k ≠ 48 ∧ k ≠ 53) → r.1 k = M.1 k) ∧ ∀ a, (a = 0 ∨ a = 3 ∨ 10 < a) → r.2.2 a = M.2.2 a
def FINv (M : MS) (r : Int32 × Ob × Ob × Ob × Ob × Ob) (q : Int32 × MS) : Prop := VFo M q.2 ∧ ((r.1 = 0 ∧ q.1 = 0 ∧ q.2.1 10 = mO ∧ q.2.2.2 4 = M.2.2 4 ∧ ∃ S, SOK_ S ∧ VC r.2.2.1 (dFin S.1) ∧ FC r.2.2.2.1 S.2.1 ∧ RCn r.2.2.2.2.1 S.2.2.1 ∧ RCn r.2.2.2.2.2 S.2.2.2 ∧ VM q.2 0 (dFin S.1) ∧ FM q.2 S.2.1 ∧ RMo q.2 (q.2.1 3) (ru S.2.2.1) ∧ RMo q.2 (q.2.1 4) (ru S.2.2.2) ∧ (q.2.1 36 = 0 ∧ q.2.1 48 = 0 ∧ q.2.1 53 = 0)) ∨ ∃ f p, f ≠ 0 ∧ f ≤ 5 ∧ r.1 = nI f ∧ r.2.1.1 6 = nI p ∧ p ≤ 700 ∧ q.1 = nI f ∧ q.2.1 10 = nI p ∧ q.2.2.2 4 = upd (M.2.2 4) 0 (M.2.2 4 0 + 1) ∧ (∀ k, k = 1 ∨ k = 2 ∨ k = 3 ∨ k = 4 ∨ k = 36 ∨ k = 48 ∨ k = 53 → q.2.1 k = M.1 k) ∧ ∀ a, a = 1 ∨ a = 2 ∨ a = 10 → q.2.2.2 a = M.2.2 a)
theorem l_village {T : Nat → Nat} {n k : Nat} (tp : TAPE T k ut M) (h8 : M.1 8 = nI k) (hk : k ≤ 700) (hn : n ≤ k) : RT (f_X6_read v vv vf vp vk ut 700 (nI n)) (fun r => RT (f_X12_village M (nI n)) (fun q => FINv M r q)) := by
  refine RT.cps (fun Q hQ => ?_)
  have b : TB (T, n) ut := ⟨by show n ≤ 700; omega, fun i hi => ⟨(tp i (by have : i < n := hi; omega)).1, (tp i (by have : i < n := hi; omega)).2.1⟩⟩
  -- the class begins
  unfold f_X6_read
  have l9 : (if Int32.ofNat 700 < nI n then Int32.ofNat 700 else nI n) = nI n := if_neg (show ¬ nI 700 < nI n from nI_nlt (by omega) (by omega))
  rw [l9, bnd_nr, bnd_nr]
  obtain ⟨w1, e1, d1⟩ : RT (f_X10_clear vv) (fun r => r.1 0 = 0 ∧ r.1 1 = 0 ∧ r.1 2 = 0) := by
    unfold f_X10_clear
    rw [bnd_nr, bnd_nr, bnd_nr]
    exact RT.ret ⟨by simp (disch := omega) only [pk_us, pk_un], by simp (disch := omega) only [pk_us, pk_un], by simp (disch := omega) only [pk_us, pk_un]⟩
  have clr : ∀ R : Ob, RT (f_X7_clear R) (fun r => RCn r (false, [])) := by
    intro R
    unfold f_X7_clear
    rw [bnd_nr, bnd_nr]
    exact RT.ret ⟨by simp (disch := omega) only [pk_us, pk_un]; rfl, by simp (disch := omega) only [pk_us, pk_un]; rfl, (fun z => by cases z), fun _ => rfl⟩
  obtain ⟨w2, e2, d2⟩ := clr vp
  obtain ⟨w3, e3, d3⟩ := clr vk
  rw [e1, ob_some, bnd_nr, e2, ob_some, e3, ob_some]
  obtain ⟨w4, e4, d4, _, _⟩ := c_next0 (X := (T, n)) (j := 0) (z := ((upd (upd v.1 5 (nI n)) 7 0, v.2) : Ob)) b (by simp (disch := omega) only [pk_us, pk_un]) (by simp (disch := omega) only [pk_us, pk_un]; rfl)
  show RT ((f_X6_next ((upd (upd v.1 5 (nI n)) 7 0, v.2) : Ob) ut 700).bind _) Q
  rw [e4, ob_some]
  -- the reference begins
  have mv : f_X12_village M (nI n) = f_X12_village_L79 FUEL 0 ((upd (upd (upd (upd (upd (upd (upd (upd (upd (upd M.1 0 0) 8 0) 10 (-1)) 9 0) 12 (nI n)) 13 0) 20 0) 21 0) 22 (-1)) 23 (-1), M.2) : MS) := by
    unfold f_X12_village
    rw [bnd_nr, if_neg (show ¬ nI n < (0 : Int32) from nI_nlt (b := 0) (Nat.zero_le _) (by omega))]
    dsimp only
    rw [if_neg (show ¬ upd M.1 0 0 8 < nI n from by rw [pk_un (by omega), h8]; exact nI_nlt hn (by omega))]
    unfold f_X12_village_J23
    rw [m_right1 (M := ((upd M.1 0 0, M.2) : MS)) (show upd M.1 0 0 0 = 0 from pk_us), ob_some, if_neg (show ¬ (1 : Int32) = 0 by decide)]
    simp only [bnd_nr]
  generalize hI : upd (upd (upd (upd (upd (upd (upd (upd (upd (upd M.1 0 0) 8 0) 10 (-1)) 9 0) 12 (nI n)) 13 0) 20 0) 21 0) 22 (-1)) 23 (-1) = I at *
  have Ie : I 0 = 0 ∧ I 8 = 0 ∧ I 10 = mO ∧ I 9 = 0 ∧ I 12 = nI n ∧ I 13 = 0 ∧ I 20 = 0 ∧ I 21 = 0 ∧ I 22 = mO ∧ I 23 = mO := by
    rw [← hI]
    simp (disch := omega) only [pk_us, pk_un]
    exact ⟨trivial, trivial, rfl, trivial, trivial, trivial, trivial, trivial, rfl, rfl⟩
  have Ik : ∀ q, (q ≠ 0 ∧ q < 8) ∨ 23 < q → I q = M.1 q := fun q hq => by rw [← hI]; simp (disch := omega) only [pk_us, pk_un]
  have go : ∀ r, (∀ y : MS, y.1 = I → (∀ a, a ≠ 6 → y.2.2 a = M.2.2 a) → (∀ i, i < 86 → y.2.2 6 i = 0) → RT ((f_X12_takes ((upd y.1 24 0, y.2) : MS)).bind (fun q16 => f_X12_village_L107 FUEL q16)) (fun q => FINv M r q)) → RT (f_X12_village M (nI n)) (fun q => FINv M r q) := by
    intro r hy
    rw [mv]
    refine RT.loop0 (fun u i (y : MS) => f_X12_village_L79 u (nI i) y) 86 (fun i y => y.1 = I ∧ (∀ a, a ≠ 6 → y.2.2 a = M.2.2 a) ∧ ∀ q, q < i → y.2.2 6 q = 0) _ ((I, M.2) : MS) (by omega) ⟨rfl, fun _ _ => rfl, fun q hq => absurd hq (Nat.not_lt_zero _)⟩ ?_ ?_
    · intro u y ⟨y1, y2, y3⟩
      show RT (f_X12_village_L79 (u + 1) (nI 86) y) _
      unfold f_X12_village_L79
      refine RT.itT (show nI 86 ≤ nI 86 by decide) ?_
      rw [bnd_nr]
      exact hy y y1 y2 y3
    · intro u i y hi ⟨y1, y2, y3⟩ hk9
      show RT (f_X12_village_L79 (u + 1) (nI i) y) _
      unfold f_X12_village_L79
      refine RT.itF (show ¬ nI 86 ≤ nI i from nI_ge hi (by omega)) ?_
      rw [sx_grd (by omega) (by omega), sx_clamp (by omega), bnd_nr, bnd_nr, nI_1]
      refine hk9 _ ⟨y1, fun a ha => ?_, fun q hq => ?_⟩
      · simp (disch := omega) only [uA_n]; exact y2 a ha
      · by_cases e : q = i
        · subst e
          simp (disch := omega) only [uA_s, pk_us]
        · simp (disch := omega) only [uA_s, pk_un]; exact y3 q (by omega)
  -- both read
  have fin : ∀ y : MS, y.1 = I → (∀ a, a ≠ 6 → y.2.2 a = M.2.2 a) → (∀ i, i < 86 → y.2.2 6 i = 0) → RT (f_X6_read_L58 700 ut FUEL 0 0 w4 w1 ((upd vf.1 0 0, vf.2) : Ob) w2 w3) (fun r => RT ((f_X12_takes ((upd y.1 24 0, y.2) : MS)).bind (fun q16 => f_X12_village_L107 FUEL q16)) (fun q => FINv M r q)) := by
    intro y y1 y2 y3
    have x0 : TXm (T, n) ((upd y.1 24 0, y.2) : MS) := ⟨by simp (disch := omega) only [pk_us, pk_un]; rw [y1]; exact Ie.2.2.2.2.1, by show n ≤ 700; omega, fun i hi => ⟨(tp i (by have : i < n := hi; omega)).1, by show y.2.2 3 i = _; rw [y2 3 (by omega)]; exact (tp i (by have : i < n := hi; omega)).2.2⟩⟩
    obtain ⟨N, e5, t5, f5⟩ := m_takes0 (X := (T, n)) (j := 0) x0 (by simp (disch := omega) only [pk_us, pk_un]; rw [y1]; exact Ie.2.2.2.2.2.1)
    rw [e5, ob_some]
    have Nk : ∀ q, q ≠ 24 → (q < 13 ∨ 18 < q) → N.1 q = I q := fun q h1 h2 => by rw [f5.1 q h2]; simp (disch := omega) only [pk_us, pk_un]; rw [y1]
    have Na : ∀ a, N.2.2 a = y.2.2 a := fun a => by rw [f5.2]
    have D0 : DW ((((0, 0), fun _ => 0, fun _ => 0, fun _ => 0, fun _ => false) : DV)) 0 := ⟨by show 0 ≤ 12; omega, fun p hp => absurd hp (Nat.not_lt_zero _), fun p hp => absurd hp (Nat.not_lt_zero _), fun p q hp => absurd hp (Nat.not_lt_zero _), fun k hk => absurd hk (Nat.not_lt_zero _)⟩
    have cg : CG (T, n) ((((0, 0), fun _ => 0, fun _ => 0, fun _ => 0, fun _ => false), (0, fun _ => 0, fun _ => 0), (false, []), (false, [])) : SD) (w4, w1, ((upd vf.1 0 0, vf.2) : Ob), w2, w3) 0 := ⟨d4, ⟨⟨d1.1, d1.2.1, d1.2.2⟩, fun p hp => absurd hp (Nat.not_lt_zero _), fun k hk => absurd hk (Nat.not_lt_zero _)⟩, ⟨by simp (disch := omega) only [pk_us, pk_un]; rfl, fun k hk => absurd hk (Nat.not_lt_zero _)⟩, d2, d3⟩
    have mg : MG (T, n) N ((((0, 0), fun _ => 0, fun _ => 0, fun _ => 0, fun _ => false), (0, fun _ => 0, fun _ => 0), (false, []), (false, [])) : SD) [] N 0 := by
      refine ⟨⟨x0.tf f5, t5, ?_, ?_⟩, LF.refl N, ⟨?_, ⟨?_, ?_⟩, fun p hp => absurd hp (Nat.not_lt_zero _), fun i hi => ?_⟩, ⟨?_, fun k hk => absurd hk (Nat.not_lt_zero _)⟩, ⟨⟨?_, fun i hi => absurd hi (Nat.not_lt_zero _)⟩, by show 0 ≤ _; omega⟩, ⟨fun _ => ?_, (fun z => by cases z)⟩, ⟨fun _ => ?_, (fun z => by cases z)⟩⟩
      · rw [Nk 9 (by omega) (by omega)]; exact Ie.2.2.2.1
      · rw [Nk 10 (by omega) (by omega)]; exact Ie.2.2.1
      · rw [Nk 20 (by omega) (by omega)]; exact Ie.2.2.2.2.2.2.1
      · rw [Na 6]; exact y3 0 (by omega)
      · rw [Na 6]; exact y3 1 (by omega)
      · rw [Na 6]; exact y3 i (by omega)
      · rw [Nk 21 (by omega) (by omega)]; exact Ie.2.2.2.2.2.2.2.1
      · rw [f5.1 24 (by omega)]; simp (disch := omega) only [pk_us, pk_un]; rfl
      · rw [Nk 22 (by omega) (by omega)]; exact Ie.2.2.2.2.2.2.2.2.1
      · rw [Nk 23 (by omega) (by omega)]; exact Ie.2.2.2.2.2.2.2.2.2
    refine RT.weak (l_read (M0 := N) b FUEL 0 FUEL 0 _ [] w4 w1 _ w2 w3 N (by unfold FUEL; omega) (by unfold FUEL; omega) (Nat.le_refl _) (Nat.zero_le _) cg mg ⟨D0, ⟨by show 0 ≤ 12; omega, fun k hk => absurd hk (Nat.not_lt_zero _)⟩, (fun z => by cases z), (fun z => by cases z)⟩) (fun r hr => RT.weak hr (fun q hq => ?_))
    rcases hq with ⟨q0, S, s1, s2, s3, s4, s5, p1, p2, p3, p4, p5, p6, p7, p8⟩ | ⟨f, j', f0, f9, r1, r2, r3, q1, q2, q3, q4, q5⟩
    · refine ⟨⟨⟨?_, ?_⟩, fun k hk => ?_, fun a ha => ?_⟩, Or.inl ⟨q0, p1, p7, ?_, S, s1, s2, s3, s4, s5, p2, p3, p4, p5, p6⟩⟩
      · rw [p8.1 0 (by omega), Nk 0 (by omega) (by omega)]; exact Ie.1
      · rw [p8.1 8 (by omega), Nk 8 (by omega) (by omega)]; exact Ie.2.1
      · rw [p8.1 k (by omega), Nk k (by omega) (by omega)]; exact Ik k (by omega)
      · rw [p8.2 a (by omega), Na a]; exact y2 a (by omega)
      · rw [p8.2 4 (by omega), Na 4]; exact y2 4 (by omega)
    · refine ⟨⟨⟨?_, ?_⟩, fun k hk => ?_, fun a ha => ?_⟩, Or.inr ⟨f, ts (T, n) j', f0, f9, r1, r2, r3, q1, q2, ?_, fun k hk => ?_, fun a ha => ?_⟩⟩
      · rw [q3 0 (by omega) (by omega) (by omega), Nk 0 (by omega) (by omega)]; exact Ie.1
      · rw [q3 8 (by omega) (by omega) (by omega), Nk 8 (by omega) (by omega)]; exact Ie.2.1
      · rw [q3 k (by omega) (by omega) (by omega), Nk k (by omega) (by omega)]; exact Ik k (by omega)
      · rw [q4 a (by omega) (by omega), Na a]; exact y2 a (by omega)
      · rw [q5, Na 4, y2 4 (by omega)]
      · rw [q3 k (by omega) (by omega) (by omega), Nk k (by omega) (by omega)]; exact Ik k (by omega)
      · rw [q4 a (by omega) (by omega), Na a]; exact y2 a (by omega)
  -- together
  obtain ⟨r, er⟩ : ∃ r, f_X6_read_L58 700 ut FUEL 0 0 w4 w1 ((upd vf.1 0 0, vf.2) : Ob) w2 w3 = some r := by
    obtain ⟨r, er, _⟩ := fin ((I, M.2.1, sA M.2.2 6 (fun _ => 0)) : MS) rfl (fun a ha => sA_n ha) (fun i _ => by show sA M.2.2 6 (fun _ => 0) 6 i = 0; rw [sA_s])
    exact ⟨r, er⟩
  refine ⟨r, er, hQ r (go r (fun y y1 y2 y3 => ?_))⟩
  obtain ⟨r2, er2, h9⟩ := fin y y1 y2 y3
  rw [er] at er2
  cases er2
  exact h9
end VLG
