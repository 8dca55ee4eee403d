/-! a rule's line; any line -/
section RLN
variable {X : TX} {ut : Nat → Int32} {M0 M : MS} {S : SD} {C : List Nat} {v vv vf vp vk : Ob} {j : Nat} {pk : Bool} {lo hi : Nat}
/-- the reference reads a rule as the class does -/
theorem m_expr {y : MS} {f j' : Nat} {K : List Nat} {cm : Bool} (h : TK X y j) (c : CM y C) (hc : C.length + 2 ≤ 2 * j) (h1 : 1 ≤ j) (hj : j ≤ X.2) (ex : EXe X f j' cm) (s : SIMe X lo hi 0 j f j' K cm) : RT (f_X12_expression y (nI lo) (nI hi)) (fun r => (f = 0 → TK X r j' ∧ XF y r ∧ CM r (C ++ enc K ++ [0]) ∧ (C ++ enc K ++ [0]).length + 1 ≤ 2 * j') ∧ (f ≠ 0 → BE X y r f j')) := by
  refine RT.cps (fun Q hQ => ?_)
  obtain ⟨x, t, g⟩ := h
  have n7 := x.2.1
  unfold f_X12_expression
  rw [isGood_1 g.1, ob_some]
  refine RT.itF (show ¬ nI 1 = 0 by decide) ?_
  rw [bnd_nr, bnd_nr, bnd_nr, bnd_nr]
  have gm : GM X lo hi y C [] 0 (fun _ => false) ((upd (upd (upd (upd y.1 25 (nI lo)) 26 (nI hi)) 27 0) 28 0, y.2) : MS) j := by
    refine ⟨⟨?_, x.2.1, x.2.2⟩, ⟨?_, ?_, ?_, ?_, fun h => ?_, fun h => ?_, t.2.2.2.2.2.2⟩, ?_, ⟨?_, ?_⟩, ⟨?_, c.2⟩, ⟨?_, trivial⟩, ⟨?_, fun i h1 h2 => by omega⟩, ⟨fun k h1 h2 h3 h4 => ?_, fun _ _ => rfl⟩⟩
    · simp (disch := omega) only [pk_us, pk_un]; exact x.1
    · simp (disch := omega) only [pk_us, pk_un]; exact t.1
    · simp (disch := omega) only [pk_us, pk_un]; exact t.2.1
    · simp (disch := omega) only [pk_us, pk_un]; exact t.2.2.1
    · simp (disch := omega) only [pk_us, pk_un]; exact t.2.2.2.1
    · simp (disch := omega) only [pk_us, pk_un]; exact t.2.2.2.2.1 h
    · simp (disch := omega) only [pk_us, pk_un]; exact t.2.2.2.2.2.1 h
    · simp (disch := omega) only [pk_us, pk_un]; exact g
    · simp (disch := omega) only [pk_us, pk_un]
    · simp (disch := omega) only [pk_us, pk_un]
    · simp (disch := omega) only [pk_us, pk_un]; exact c.1
    · simp (disch := omega) only [pk_us, pk_un]; rfl
    · simp (disch := omega) only [pk_us, pk_un]; rfl
    · simp (disch := omega) only [pk_us, pk_un]
  have bd : BD X C [] j := ⟨by show C.length + 0 + 2 ≤ _; omega, by show 0 < _; omega, hj⟩
  have key := s y Q FUEL FUEL _ C [] (fun _ => false) gm bd trivial (by unfold FUEL; omega) (by unfold FUEL; omega) (fun f0 n' z' o P tst' e1 e2 e3 eA eB e4 e5 => by
    rw [List.append_nil] at e4 e5
    obtain ⟨x1, x2, x3, x4⟩ := ex f0
    have j7 := e5.2.2
    refine ev_top e4 e5 e2 x1 x2 (fun z => by rw [eB]; exact x3 z) x4 (by omega) (fun r r1 r2 => hQ r ⟨fun _ => ?_, fun z => absurd f0 z⟩)
    rw [← e3] at r1 r2
    exact ⟨⟨r1.1, r1.2.1, r1.2.2.1⟩, r1.2.2.2.2.2.2.2, r1.2.2.2.2.1, r2⟩) (fun f0 r hr => hQ r ⟨fun z => absurd z f0, fun _ => hr⟩)
  have k2 := RT.bind key (fun r hr => hr)
  rw [Option.bind_assoc] at k2
  exact k2
theorem c_rule {R : Ob} (b : TB X ut) (t : TC X v j) (hp : (lo = if pk then 0 else 4) ∧ (hi = if pk then 5 else 8)) (h0 : R.1 0 = 0) (h1 : R.1 1 = nI 0) (k1 : tk X j ≠ 0) : RT (f_X6_ruleLine v ut R 700 (nI (if pk then 1 else 0))) (fun r => ∃ (f j' : Nat) (K : List Nat) (cm : Bool), f ≤ 5 ∧ (j + 1 ≤ j' ∧ j' ≤ X.2) ∧ EXe X f j' cm ∧ SIMe X lo hi 0 (j + 1) f j' K cm ∧ (f = 0 → RLok (true, K) lo hi ∧ RCn r.2.2 (true, K) ∧ (tk X j' = 59 → r.1 = 0 ∧ TC X r.2.1 (j' + 1)) ∧ (tk X j' ≠ 59 → r.1 = nI 1 ∧ r.2.1.1 6 = nI (ts X j'))) ∧ (f ≠ 0 → r.1 = nI f ∧ r.2.1.1 6 = nI (ts X j'))) := by
  refine RT.cps (fun Q hQ => ?_)
  have hn := b.1
  have tj := tk_j k1
  unfold f_X6_ruleLine
  refine RT.itT h0 ?_
  have bz9 : bz (nI (if pk then 1 else 0)) = true := by cases pk <;> rfl
  rw [bnd_nr, bz9]
  show RT (bnd _ _) Q
  rw [bnd_nr]
  have ty : TC X ((upd v.1 10 (nI (if pk then 1 else 0)), v.2) : Ob) j := ⟨by simp (disch := omega) only [pk_us, pk_un]; exact t.1, by simp (disch := omega) only [pk_us, pk_un]; exact t.2.1, by simp (disch := omega) only [pk_us, pk_un]; exact t.2.2.1, by simp (disch := omega) only [pk_us, pk_un]; exact t.2.2.2.1, fun z => by simp (disch := omega) only [pk_us, pk_un]; exact t.2.2.2.2 z⟩
  refine RT.bind (c_next b ty) (fun q ⟨q1, q2, _⟩ => ?_)
  have q10 : q.1 10 = nI (if pk then 1 else 0) := by rw [q2]; simp (disch := omega) only [pk_us, pk_un]
  have rs : RS ((upd R.1 0 1, R.2) : Ob) [] := ⟨by simp (disch := omega) only [pk_us, pk_un]; exact h1, fun i hi => absurd hi (Nat.not_lt_zero _)⟩
  have pi : PI X ut pk lo hi q ((upd R.1 0 1, R.2) : Ob) [] (j + 1) := ⟨b, q1, q10, hp, rs, by show 0 < j + 1; omega, by omega⟩
  refine RT.bind (rec_ok (X := X) (ut := ut) (pk := pk) (lo := lo) (hi := hi) 8 0 (by omega) (by omega) q _ [] (j + 1) pi) (fun r hr => ?_)
  obtain ⟨f, j', K, r1, r2, ⟨r3, r4⟩, r5, r6, r7, r8, r9, cm, rx, rs9⟩ := hr
  rw [r1]
  have told : r.2.2.1 0 = nI 1 := by rw [r7]; simp (disch := omega) only [pk_us, pk_un]; rfl
  by_cases f0 : f = 0
  · subst f0
    obtain ⟨y1, y2, y3, y4⟩ := r8 rfl
    obtain ⟨z1, z2⟩ := y3 0 (by omega)
    refine RT.itT rfl ?_
    refine RT.bind (c_lineEnd b r5) (fun u ⟨u1, u2⟩ => RT.done hQ ?_)
    refine ⟨0, j', K, cm, by omega, ⟨r3, r4⟩, rx, rs9, fun _ => ⟨fun _ => ⟨by show K.length ≤ 700; omega, z1, z2, y4⟩, ⟨told, y1.1, fun _ => y1, fun z => by cases z⟩, u1, fun z => ⟨(u2 z).1, ?_⟩⟩, fun z => absurd rfl z⟩
    show u.2.1 6 = _
    rw [(u2 z).2]; exact r5.2.1
  · refine RT.itF (nI_ne0 (by omega) (by omega)) (RT.done hQ ?_)
    exact ⟨f, j', K, cm, r2, ⟨r3, r4⟩, rx, rs9, fun z => absurd z f0, fun _ => ⟨rfl, r5.2.1⟩⟩
theorem RAt_ne {x : Int32} {r : RLs} (h : RAt C x r) (hc : C.length ≤ 2000) (e : r.1 = true) : ¬ x = -1 := by
  obtain ⟨A, B, h1, h2⟩ := h.2 e
  have l : A.length ≤ C.length := by rw [h1]; simp only [List.length_append]; omega
  rw [h2]
  intro z
  exact (sx_eqm (a := A.length) (by omega)).mp z
theorem l_picks (b : TB X ut) (c : CG X S (v, vv, vf, vp, vk) j) (g : MG X M0 S C M j) (s : SOK_ S) (hj : j ≤ X.2) (hw : tw X j = 11) : RT (f_X6_ruleLine v ut vp 700 1) (fun r => RT (f_X12_line M) (fun m => LR X M0 j (r.1, r.2.1, vv, vf, r.2.2, vk) m)) := by
  obtain ⟨c1, c2, c3, c4, c5⟩ := c
  dsimp only at c1 c2 c3 c4 c5
  obtain ⟨s1, s2, s3, s4⟩ := s
  have hn := b.1
  have k1 : tk X j ≠ 0 := by rw [tw_1 (by omega)]; omega
  have tj := tk_j k1
  have g1 := g.1
  have g8 := g.2.2.2.2.1.2
  have ml : f_X12_line M = if M.1 22 = -1 then f_X12_line_J118 0 0 M else f_X12_line_J118 1 0 M := by
    unfold f_X12_line
    rw [m_knownWord g1.1 g1.2.1, ob_some, hw, if_pos (show (11 : Nat) < 16 by omega), if_neg (show ¬ nI 11 = 9 by decide), if_neg (show ¬ nI 11 = 6 by decide), if_neg (show ¬ nI 11 = 10 by decide), if_pos (show nI 11 = 11 from rfl)]
  rw [ml]
  cases e : S.2.2.1.1
  · have h0 : vp.1 0 = 0 := by rw [c4.1, e]; rfl
    have h1 : vp.1 1 = nI 0 := by rw [c4.2.1, c4.2.2.2 e]; rfl
    refine RT.weak (c_rule (pk := true) (lo := 0) (hi := 5) b c1 ⟨rfl, rfl⟩ h0 h1 k1) (fun r hr => ?_)
    obtain ⟨f, j', K, cm, f5, ⟨ja, jb⟩, rx, rs9, rok, rbad⟩ := hr
    rw [if_pos (show M.1 22 = -1 from g.2.2.2.2.2.1.1 e)]
    unfold f_X12_line_J118
    obtain ⟨q1, e1, f1, t1, tf1⟩ := m_begins0 g1
    rw [e1, ob_some, f1, if_neg (show ¬ nI 1 = 0 by decide), bnd_nr]
    have gA := g.tf t1 tf1 (by omega)
    generalize q1.2 = M1 at *
    obtain ⟨a1, a2, a3, a4, ⟨a5, a8⟩, a6, a7⟩ := gA
    rw [a5.1]
    have ty : TK X ((upd M1.1 22 (nI C.length), M1.2) : MS) (j + 1) := a1.fr (fun k hk => by simp (disch := omega) only [pk_us, pk_un]) rfl rfl
    have cy : CM ((upd M1.1 22 (nI C.length), M1.2) : MS) C := ⟨by simp (disch := omega) only [pk_us, pk_un]; exact a5.1, a5.2⟩
    have ly : LF M0 ((upd M1.1 22 (nI C.length), M1.2) : MS) := ⟨fun k h1 h2 h3 => by
      show upd M1.1 22 (nI C.length) k = _
      rw [pk_un (by omega)]; exact a2.1 k h1 h2 h3, a2.2⟩
    obtain ⟨M2, e2, mok, mbad⟩ := m_expr (lo := 0) (hi := 5) ty cy (by omega) (by omega) (by omega) rx rs9
    rw [show f_X12_expression ((upd M1.1 22 (nI C.length), M1.2) : MS) 0 5 = some M2 from e2, ob_some]
    by_cases f0 : f = 0
    · obtain ⟨n1, n2, n3, n4⟩ := mok f0
      obtain ⟨o1, o2, o3, o4⟩ := rok f0
      have l2 : LF M0 M2 := ly.trans n2.lf
      have gB : MG X M0 (S.1, S.2.1, (true, K), S.2.2.2) (C ++ enc K ++ [0]) M2 j' := by
        refine ⟨n1, l2, a3.fr ?_ ?_, a4.fr ?_ ?_, ⟨n3, by omega⟩, ⟨(fun z => by cases z), fun _ => ⟨C, [], by rw [List.append_nil], ?_⟩⟩, ?_⟩
        · rw [n2.1 20 (by omega) (by omega) (by omega) (by omega)]; simp (disch := omega) only [pk_us, pk_un]
        · exact n2.2 6 (by omega)
        · rw [n2.1 21 (by omega) (by omega) (by omega) (by omega)]; simp (disch := omega) only [pk_us, pk_un]
        · exact n2.2 5 (by omega)
        · rw [n2.1 22 (by omega) (by omega) (by omega) (by omega)]; simp (disch := omega) only [pk_us, pk_un]
        · rw [n2.1 23 (by omega) (by omega) (by omega) (by omega), List.append_assoc]
          simp (disch := omega) only [pk_us, pk_un]
          exact a7.app
      by_cases k9 : tk X j' = 59
      · have tj2 := tk_j (X := X) (j := j') (by omega)
        obtain ⟨u1, u2⟩ := o3 k9
        exact RT.weak (j191_end n1 k9) (fun m ⟨m1, m2⟩ => Or.inl ⟨u1, (S.1, S.2.1, (true, K), S.2.2.2), C ++ enc K ++ [0], j' + 1, by omega, by omega, ⟨u2, c2, c3, o2, c5⟩, gB.tf m1 m2 (by omega), s1, s2, o1, s4⟩)
      · obtain ⟨u1, u2⟩ := o4 k9
        exact RT.weak (j191_mis n1 l2 k9) (fun m hm => Or.inr ⟨1, j', by omega, by omega, u1, u2, hm⟩)
    · have bl : BL X M0 M2 f j' := ⟨ly.trans (mbad f0).1.lf, (mbad f0).2.1, (mbad f0).2.2⟩
      obtain ⟨u1, u2⟩ := rbad f0
      exact ⟨_, j191_bad bl f0 f5, Or.inr ⟨f, j', f0, f5, u1, u2, bl⟩⟩
  · unfold f_X6_ruleLine
    refine RT.itF (by rw [c4.1, e]; decide) (RT.ret ?_)
    rw [if_neg (RAt_ne g.2.2.2.2.2.1 (by omega) e)]
    unfold f_X12_line_J118
    rw [m_begins5 g1, ob_some, if_pos (show nI 0 = 0 from rfl)]
    have bl := g.bad (f := 5)
    exact ⟨_, j191_bad bl (by omega) (by omega), Or.inr ⟨5, j, by omega, by omega, rfl, c1.2.1, bl⟩⟩
theorem l_keeps (b : TB X ut) (c : CG X S (v, vv, vf, vp, vk) j) (g : MG X M0 S C M j) (s : SOK_ S) (hj : j ≤ X.2) (hw : tw X j = 12) : RT (f_X6_ruleLine v ut vk 700 0) (fun r => RT (f_X12_line M) (fun m => LR X M0 j (r.1, r.2.1, vv, vf, vp, r.2.2) m)) := by
  obtain ⟨c1, c2, c3, c4, c5⟩ := c
  dsimp only at c1 c2 c3 c4 c5
  obtain ⟨s1, s2, s3, s4⟩ := s
  have hn := b.1
  have k1 : tk X j ≠ 0 := by rw [tw_1 (by omega)]; omega
  have tj := tk_j k1
  have g1 := g.1
  have g8 := g.2.2.2.2.1.2
  have ml : f_X12_line M = if M.1 23 = -1 then f_X12_line_J162 0 0 M else f_X12_line_J162 1 0 M := by
    unfold f_X12_line
    rw [m_knownWord g1.1 g1.2.1, ob_some, hw, if_pos (show (12 : Nat) < 16 by omega), if_neg (show ¬ nI 12 = 9 by decide), if_neg (show ¬ nI 12 = 6 by decide), if_neg (show ¬ nI 12 = 10 by decide), if_neg (show ¬ nI 12 = 11 by decide), if_pos (show nI 12 = 12 from rfl)]
  rw [ml]
  cases e : S.2.2.2.1
  · have h0 : vk.1 0 = 0 := by rw [c5.1, e]; rfl
    have h1 : vk.1 1 = nI 0 := by rw [c5.2.1, c5.2.2.2 e]; rfl
    refine RT.weak (c_rule (pk := false) (lo := 4) (hi := 8) b c1 ⟨rfl, rfl⟩ h0 h1 k1) (fun r hr => ?_)
    obtain ⟨f, j', K, cm, f5, ⟨ja, jb⟩, rx, rs9, rok, rbad⟩ := hr
    rw [if_pos (show M.1 23 = -1 from g.2.2.2.2.2.2.1 e)]
    unfold f_X12_line_J162
    obtain ⟨q1, e1, f1, t1, tf1⟩ := m_begins0 g1
    rw [e1, ob_some, f1, if_neg (show ¬ nI 1 = 0 by decide), bnd_nr]
    have gA := g.tf t1 tf1 (by omega)
    generalize q1.2 = M1 at *
    obtain ⟨a1, a2, a3, a4, ⟨a5, a8⟩, a6, a7⟩ := gA
    rw [a5.1]
    have ty : TK X ((upd M1.1 23 (nI C.length), M1.2) : MS) (j + 1) := a1.fr (fun k hk => by simp (disch := omega) only [pk_us, pk_un]) rfl rfl
    have cy : CM ((upd M1.1 23 (nI C.length), M1.2) : MS) C := ⟨by simp (disch := omega) only [pk_us, pk_un]; exact a5.1, a5.2⟩
    have ly : LF M0 ((upd M1.1 23 (nI C.length), M1.2) : MS) := ⟨fun k h1 h2 h3 => by
      show upd M1.1 23 (nI C.length) k = _
      rw [pk_un (by omega)]; exact a2.1 k h1 h2 h3, a2.2⟩
    obtain ⟨M2, e2, mok, mbad⟩ := m_expr (lo := 4) (hi := 8) ty cy (by omega) (by omega) (by omega) rx rs9
    rw [show f_X12_expression ((upd M1.1 23 (nI C.length), M1.2) : MS) 4 8 = some M2 from e2, ob_some]
    by_cases f0 : f = 0
    · obtain ⟨n1, n2, n3, n4⟩ := mok f0
      obtain ⟨o1, o2, o3, o4⟩ := rok f0
      have l2 : LF M0 M2 := ly.trans n2.lf
      have gB : MG X M0 (S.1, S.2.1, S.2.2.1, (true, K)) (C ++ enc K ++ [0]) M2 j' := by
        refine ⟨n1, l2, a3.fr ?_ ?_, a4.fr ?_ ?_, ⟨n3, by omega⟩, ?_, ⟨(fun z => by cases z), fun _ => ⟨C, [], by rw [List.append_nil], ?_⟩⟩⟩
        · rw [n2.1 20 (by omega) (by omega) (by omega) (by omega)]; simp (disch := omega) only [pk_us, pk_un]
        · exact n2.2 6 (by omega)
        · rw [n2.1 21 (by omega) (by omega) (by omega) (by omega)]; simp (disch := omega) only [pk_us, pk_un]
        · exact n2.2 5 (by omega)
        · rw [n2.1 22 (by omega) (by omega) (by omega) (by omega), List.append_assoc]
          simp (disch := omega) only [pk_us, pk_un]
          exact a6.app
        · rw [n2.1 23 (by omega) (by omega) (by omega) (by omega)]; simp (disch := omega) only [pk_us, pk_un]
      by_cases k9 : tk X j' = 59
      · have tj2 := tk_j (X := X) (j := j') (by omega)
        obtain ⟨u1, u2⟩ := o3 k9
        exact RT.weak (j191_end n1 k9) (fun m ⟨m1, m2⟩ => Or.inl ⟨u1, (S.1, S.2.1, S.2.2.1, (true, K)), C ++ enc K ++ [0], j' + 1, by omega, by omega, ⟨u2, c2, c3, c4, o2⟩, gB.tf m1 m2 (by omega), s1, s2, s3, o1⟩)
      · obtain ⟨u1, u2⟩ := o4 k9
        exact RT.weak (j191_mis n1 l2 k9) (fun m hm => Or.inr ⟨1, j', by omega, by omega, u1, u2, hm⟩)
    · have bl : BL X M0 M2 f j' := ⟨ly.trans (mbad f0).1.lf, (mbad f0).2.1, (mbad f0).2.2⟩
      obtain ⟨u1, u2⟩ := rbad f0
      exact ⟨_, j191_bad bl f0 f5, Or.inr ⟨f, j', f0, f5, u1, u2, bl⟩⟩
  · unfold f_X6_ruleLine
    refine RT.itF (by rw [c5.1, e]; decide) (RT.ret ?_)
    rw [if_neg (RAt_ne g.2.2.2.2.2.2 (by omega) e)]
    unfold f_X12_line_J162
    rw [m_begins5 g1, ob_some, if_pos (show nI 0 = 0 from rfl)]
    have bl := g.bad (f := 5)
    exact ⟨_, j191_bad bl (by omega) (by omega), Or.inr ⟨5, j, by omega, by omega, rfl, c1.2.1, bl⟩⟩
theorem l_line (b : TB X ut) (c : CG X S (v, vv, vf, vp, vk) j) (g : MG X M0 S C M j) (s : SOK_ S) (hj : j ≤ X.2) : RT (f_X6_line v vv vf vp vk ut 700) (fun r => RT (f_X12_line M) (fun m => LR X M0 j r m)) := by
  have c1 : TC X v j := c.1
  have one : ¬ nI 1 = (0 : Int32) := by decide
  have zer : nI 0 = (0 : Int32) := rfl
  have w9 : f_X6_isWord v ut 700 2 = some (nI (if tw X j = 9 then 1 else 0)) := c_isWord (k := 9) b c1 (by omega)
  have w6 : f_X6_isWord v ut 700 3 = some (nI (if tw X j = 6 then 1 else 0)) := c_isWord (k := 6) b c1 (by omega)
  have w10 : f_X6_isWord v ut 700 4 = some (nI (if tw X j = 10 then 1 else 0)) := c_isWord (k := 10) b c1 (by omega)
  have w11 : f_X6_isWord v ut 700 5 = some (nI (if tw X j = 11 then 1 else 0)) := c_isWord (k := 11) b c1 (by omega)
  have w12 : f_X6_isWord v ut 700 17 = some (nI (if tw X j = 12 then 1 else 0)) := c_isWord (k := 12) b c1 (by omega)
  unfold f_X6_line
  rw [w9, ob_some]
  by_cases e9 : tw X j = 9
  · rw [if_pos e9, if_neg one]
    exact RT.bind (l_person b c g s hj e9) (fun r hr => RT.ret hr)
  · rw [if_neg e9, if_pos zer, w6, ob_some]
    by_cases e6 : tw X j = 6
    · rw [if_pos e6, if_neg one]
      exact RT.bind (l_house b c g s hj e6) (fun r hr => RT.ret hr)
    · rw [if_neg e6, if_pos zer, w10, ob_some]
      by_cases e10 : tw X j = 10
      · rw [if_pos e10, if_neg one]
        exact RT.bind (l_friends b c g s hj e10) (fun r hr => RT.ret hr)
      · rw [if_neg e10, if_pos zer, w11, ob_some]
        by_cases e11 : tw X j = 11
        · rw [if_pos e11, if_neg one]
          exact RT.bind (l_picks b c g s hj e11) (fun r hr => RT.ret hr)
        · rw [if_neg e11, if_pos zer, w12, ob_some]
          by_cases e12 : tw X j = 12
          · rw [if_pos e12, if_neg one]
            exact RT.bind (l_keeps b c g s hj e12) (fun r hr => RT.ret hr)
          · rw [if_neg e12, if_pos zer]
            refine RT.ret ?_
            have g1 := g.1
            unfold f_X12_line
            rw [m_knownWord g1.1 g1.2.1, ob_some, if_neg (show ¬ (if tw X j < 16 then nI (tw X j) else mO) = (9 : Int32) from kw_ne (k := 9) (by omega) e9), if_neg (show ¬ (if tw X j < 16 then nI (tw X j) else mO) = (6 : Int32) from kw_ne (k := 6) (by omega) e6), if_neg (show ¬ (if tw X j < 16 then nI (tw X j) else mO) = (10 : Int32) from kw_ne (k := 10) (by omega) e10), if_neg (show ¬ (if tw X j < 16 then nI (tw X j) else mO) = (11 : Int32) from kw_ne (k := 11) (by omega) e11), if_neg (show ¬ (if tw X j < 16 then nI (tw X j) else mO) = (12 : Int32) from kw_ne (k := 12) (by omega) e12), show (1 : Int32) = nI 1 from rfl, g1.wrong, ob_some]
            have bl := g.bad (f := 1)
            exact ⟨_, j191_bad bl (by omega) (by omega), Or.inr ⟨1, j, by omega, by omega, rfl, c1.2.1, bl⟩⟩
end RLN
