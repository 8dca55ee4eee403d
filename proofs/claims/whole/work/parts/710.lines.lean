/-! lines, read by both -/
def LF (M r : MS) : Prop := (∀ k, k ≠ 9 → k ≠ 10 → (k < 13 ∨ 28 < k) → r.1 k = M.1 k) ∧ ∀ a, (a < 5 ∨ 9 < a) → r.2.2 a = M.2.2 a
theorem LF.refl (M : MS) : LF M M := ⟨fun _ _ _ _ => rfl, fun _ _ => rfl⟩
theorem LF.trans {M r s : MS} (a : LF M r) (b : LF r s) : LF M s := ⟨fun k h1 h2 h3 => (b.1 k h1 h2 h3).trans (a.1 k h1 h2 h3), fun q hq => (b.2 q hq).trans (a.2 q hq)⟩
theorem TF.lf {M r : MS} (f : TF M r) : LF M r := ⟨fun k _ _ h => f.1 k (by omega), fun a _ => by rw [f.2]⟩
theorem XF.lf {M r : MS} (f : XF M r) : LF M r := ⟨fun k h1 h2 h => f.1 k h1 h2 (by omega) (by omega), fun a h => f.2 a (by omega)⟩
def TK (X : TX) (M : MS) (j : Nat) : Prop := TXm X M ∧ TM X M j ∧ M.1 9 = 0 ∧ M.1 10 = mO
theorem TK.fr {X : TX} {M r : MS} {j : Nat} (h : TK X M j) (hi : ∀ k, k = 9 ∨ k = 10 ∨ (12 ≤ k ∧ k ≤ 18) → r.1 k = M.1 k) (hw : r.2.1 = M.2.1) (ha : r.2.2 3 = M.2.2 3) : TK X r j := by
  obtain ⟨x, t, g⟩ := h
  refine ⟨⟨(hi 12 (by omega)).trans x.1, x.2.1, fun i h9 => ⟨(x.2.2 i h9).1, by rw [ha]; exact (x.2.2 i h9).2⟩⟩, ⟨(hi 13 (by omega)).trans t.1, (hi 14 (by omega)).trans t.2.1, (hi 15 (by omega)).trans t.2.2.1, (hi 16 (by omega)).trans t.2.2.2.1, fun z => (hi 17 (by omega)).trans (t.2.2.2.2.1 z), fun z => (hi 18 (by omega)).trans (t.2.2.2.2.2.1 z), fun z => hw.trans (t.2.2.2.2.2.2 z)⟩, (hi 9 (by omega)).trans g.1, (hi 10 (by omega)).trans g.2⟩
theorem TK.take {X : TX} {M : MS} {j : Nat} (h : TK X M j) : RT (f_X12_takes M) (fun r => TK X r (j + 1) ∧ TF M r) := RT.weak (m_takes h.1 h.2.1) (fun r ⟨t, f⟩ => ⟨⟨h.1.tf f, t, (f.1 9 (by omega)).trans h.2.2.1, (f.1 10 (by omega)).trans h.2.2.2⟩, f⟩)
def BL (X : TX) (M0 r : MS) (f j : Nat) : Prop := LF M0 r ∧ r.1 9 = nI f ∧ r.1 10 = nI (ts X j)
theorem TK.wrong {X : TX} {M : MS} {j f : Nat} (h : TK X M j) : f_X12_wrong M (nI f) = some (upd (upd M.1 9 (nI f)) 10 (nI (ts X j)), M.2) := by
  unfold f_X12_wrong
  rw [if_pos h.2.2.1, bnd_nr, bnd_nr]
  show some (upd (upd M.1 9 (nI f)) 10 (upd M.1 9 (nI f) 15), M.2) = _
  rw [pk_un (by omega), h.2.1.2.2.1]
theorem BL_wrong {X : TX} {M0 M : MS} {j f : Nat} (l : LF M0 M) : BL X M0 ((upd (upd M.1 9 (nI f)) 10 (nI (ts X j)), M.2) : MS) f j := ⟨⟨fun k h1 h2 h3 => by
  show upd (upd M.1 9 (nI f)) 10 (nI (ts X j)) k = _
  rw [pk_un h2, pk_un h1]; exact l.1 k h1 h2 h3, l.2⟩, by
  show upd (upd M.1 9 (nI f)) 10 (nI (ts X j)) 9 = _
  rw [pk_un (by omega), pk_us], by
  show upd (upd M.1 9 (nI f)) 10 (nI (ts X j)) 10 = _
  rw [pk_us]⟩
theorem isSign_some (z : MS) (c : Int32) : ∃ q, f_X12_isSign z c = some q := by
  unfold f_X12_isSign
  split
  · split
    · exact ⟨_, rfl⟩
    · exact ⟨_, rfl⟩
  · exact ⟨_, rfl⟩
theorem j191_bad {X : TX} {M0 z : MS} {f j : Nat} (b : BL X M0 z f j) (h0 : f ≠ 0) (h5 : f ≤ 5) : f_X12_line_J191 z = some z := by
  obtain ⟨q, e⟩ := isSign_some z 59
  unfold f_X12_line_J191
  rw [e, ob_some]
  unfold f_X12_need
  rw [isGood_0 b.2.1 h0 h5, ob_some, if_pos (show nI 0 = 0 from rfl), ob_some]
/-- the rest of a state that a line's end keeps: what isn't a token's -/
theorem j191_end {X : TX} {M : MS} {j : Nat} (h : TK X M j) (e : tk X j = 59) : RT (f_X12_line_J191 M) (fun r => TK X r (j + 1) ∧ TF M r) := by
  unfold f_X12_line_J191
  rw [show (59 : Int32) = nI 59 from rfl, m_isSign h.2.1 (c := 59) rfl, ob_some, if_pos e]
  unfold f_X12_need
  rw [isGood_1 h.2.2.1, ob_some]
  rw [if_neg (show ¬ nI 1 = 0 by decide), if_neg (show ¬ nI 1 = 0 by decide)]
  rw [Option.bind_assoc]
  refine RT.bind h.take (fun r hr => ?_)
  rw [ob_some]
  exact RT.ret hr
theorem j191_mis {X : TX} {M0 M : MS} {j : Nat} (h : TK X M j) (l : LF M0 M) (e : tk X j ≠ 59) : RT (f_X12_line_J191 M) (fun r => BL X M0 r 1 j) := by
  unfold f_X12_line_J191
  rw [show (59 : Int32) = nI 59 from rfl, m_isSign h.2.1 (c := 59) rfl, ob_some, if_neg e]
  unfold f_X12_need
  rw [isGood_1 h.2.2.1, ob_some]
  rw [if_neg (show ¬ nI 1 = 0 by decide), if_pos (show nI 0 = 0 from rfl), show (1 : Int32) = nI 1 from rfl, h.wrong, ob_some, ob_some]
  exact RT.ret (BL_wrong l)
theorem c_lineEnd {X : TX} {ut : Nat → Int32} {v : Ob} {j : Nat} (b : TB X ut) (t : TC X v j) : RT (f_X6_lineEnd v ut 700) (fun r => (tk X j = 59 → r.1 = 0 ∧ TC X r.2 (j + 1)) ∧ (tk X j ≠ 59 → r.1 = nI 1 ∧ r.2 = v)) := by
  unfold f_X6_lineEnd
  rw [show (59 : Int32) = nI 59 from rfl]
  simp only [kd_eq t (c := 59) (by omega)]
  by_cases e : tk X j = 59
  · rw [if_pos e]
    exact RT.bind (c_next b t) (fun r ⟨r1, _, _⟩ => RT.ret ⟨fun _ => ⟨rfl, r1⟩, fun z => absurd e z⟩)
  · rw [if_neg e]
    exact RT.ret ⟨fun z => absurd z e, fun _ => ⟨rfl, rfl⟩⟩
/-! what is read so far -/
abbrev RLs : Type := Bool × List Nat
abbrev SD : Type := DV × FD × RLs × RLs
def RCn (R : Ob) (r : RLs) : Prop := R.1 0 = nI (if r.1 then 1 else 0) ∧ R.1 1 = nI r.2.length ∧ (r.1 = true → RS R r.2) ∧ (r.1 = false → r.2 = [])
def RLok (r : RLs) (lo hi : Nat) : Prop := r.1 = true → r.2.length ≤ 700 ∧ okL 0 r.2 ∧ hrun 0 r.2 = 1 ∧ ∀ c ∈ r.2, vok lo hi c
def FMn (M : MS) (F : FD) : Prop := M.1 21 = nI F.1 ∧ ∀ k, k < F.1 → M.2.2 5 (2 * k) = nI (F.2.1 k) ∧ M.2.2 5 (2 * k + 1) = nI (F.2.2 k)
theorem FMn.fr {M r : MS} {F : FD} (h : FMn M F) (h1 : r.1 21 = M.1 21) (h2 : r.2.2 5 = M.2.2 5) : FMn r F := ⟨h1.trans h.1, fun k hk => by rw [h2]; exact h.2 k hk⟩
/-- where a rule's code lies in C -/
def RAt (C : List Nat) (x : Int32) (r : RLs) : Prop := (r.1 = false → x = mO) ∧ (r.1 = true → ∃ A B, C = A ++ enc r.2 ++ [0] ++ B ∧ x = nI A.length)
theorem RAt.app {C E : List Nat} {x : Int32} {r : RLs} (h : RAt C x r) : RAt (C ++ E) x r := ⟨h.1, fun e => by
  obtain ⟨A, B, h1, h2⟩ := h.2 e
  exact ⟨A, B ++ E, by rw [h1, List.append_assoc], h2⟩⟩
def CM (M : MS) (C : List Nat) : Prop := M.1 24 = nI C.length ∧ cdl (M.2.2 7) C
def MG (X : TX) (M0 : MS) (S : SD) (C : List Nat) (M : MS) (j : Nat) : Prop := TK X M j ∧ LF M0 M ∧ DM M S.1 ∧ FMn M S.2.1 ∧ (CM M C ∧ C.length ≤ 2 * j) ∧ RAt C (M.1 22) S.2.2.1 ∧ RAt C (M.1 23) S.2.2.2
theorem MG.tf {X : TX} {M0 M r : MS} {S : SD} {C : List Nat} {j k : Nat} (g : MG X M0 S C M j) (h : TK X r k) (f : TF M r) (hk : j ≤ k) : MG X M0 S C r k := by
  obtain ⟨_, g2, g3, g4, ⟨g5, g8⟩, g6, g7⟩ := g
  refine ⟨h, g2.trans f.lf, g3.fr (f.1 20 (by omega)) (by rw [f.2]), g4.fr (f.1 21 (by omega)) (by rw [f.2]), ⟨⟨(f.1 24 (by omega)).trans g5.1, by rw [f.2]; exact g5.2⟩, by omega⟩, ?_, ?_⟩
  · rw [f.1 22 (by omega)]; exact g6
  · rw [f.1 23 (by omega)]; exact g7
def SOK_ (S : SD) : Prop := DW S.1 (dvh S.1) ∧ FOK S.2.1 (dvn S.1) ∧ RLok S.2.2.1 0 5 ∧ RLok S.2.2.2 4 8
def CG (X : TX) (S : SD) (r : Ob × Ob × Ob × Ob × Ob) (j : Nat) : Prop := TC X r.1 j ∧ DC r.2.1 S.1 (dvh S.1) ∧ FC r.2.2.1 S.2.1 ∧ RCn r.2.2.2.1 S.2.2.1 ∧ RCn r.2.2.2.2 S.2.2.2
/-- a line's end: both go on, or both tell the same fault -/
def LR (X : TX) (M0 : MS) (j : Nat) (r : Int32 × Ob × Ob × Ob × Ob × Ob) (M : MS) : Prop := (r.1 = 0 ∧ ∃ S C j', j < j' ∧ j' ≤ X.2 ∧ CG X S r.2 j' ∧ MG X M0 S C M j' ∧ SOK_ S) ∨ ∃ f j', f ≠ 0 ∧ f ≤ 5 ∧ r.1 = nI f ∧ r.2.1.1 6 = nI (ts X j') ∧ BL X M0 M f j'
section LNS
variable {X : TX} {ut : Nat → Int32} {M0 M : MS} {S : SD} {C : List Nat} {v vv vf vp vk : Ob} {j : Nat}
theorem MG.bad {f : Nat} (g : MG X M0 S C M j) : BL X M0 ((upd (upd M.1 9 (nI f)) 10 (nI (ts X j)), M.2) : MS) f j := BL_wrong g.2.1
theorem upd_fr {I : Nat → Int32} {k q : Nat} {x : Int32} (h : q ≠ k) : upd I k x q = I q := pk_un h
/-- begins: well, or not -/
theorem m_begins0 (h : TK X M j) : RT (f_X12_begins M 0 0) (fun r => r.1 = nI 1 ∧ TK X r.2 (j + 1) ∧ TF M r.2) := by
  unfold f_X12_begins
  refine RT.itT rfl ?_
  unfold f_X12_begins_J9
  refine RT.itT rfl ?_
  unfold f_X12_begins_J18
  rw [isGood_1 h.2.2.1, ob_some]
  refine RT.itF (show ¬ nI 1 = 0 by decide) ?_
  exact RT.bind h.take (fun r hr => RT.ret ⟨rfl, hr.1, hr.2⟩)
theorem m_begins2 (h : TK X M j) : f_X12_begins M 1 0 = some (nI 0, upd (upd M.1 9 (nI 2)) 10 (nI (ts X j)), M.2) := by
  have b := BL_wrong (X := X) (j := j) (f := 2) (LF.refl M)
  unfold f_X12_begins
  rw [if_neg (by decide), show (2 : Int32) = nI 2 from rfl, h.wrong, ob_some]
  unfold f_X12_begins_J9
  rw [if_pos rfl]
  unfold f_X12_begins_J18
  rw [isGood_0 b.2.1 (by omega) (by omega), ob_some, if_pos (show nI 0 = 0 from rfl)]
  rfl
theorem m_begins5 (h : TK X M j) : f_X12_begins M 0 1 = some (nI 0, upd (upd M.1 9 (nI 5)) 10 (nI (ts X j)), M.2) := by
  have b := BL_wrong (X := X) (j := j) (f := 5) (LF.refl M)
  unfold f_X12_begins
  rw [if_pos rfl]
  unfold f_X12_begins_J9
  rw [if_neg (by decide), show (5 : Int32) = nI 5 from rfl, h.wrong, ob_some]
  unfold f_X12_begins_J18
  rw [isGood_0 b.2.1 (by omega) (by omega), ob_some, if_pos (show nI 0 = 0 from rfl)]
  rfl
/-- a person's line -/
theorem l_person (b : TB X ut) (c : CG X S (v, vv, vf, vp, vk) j) (g : MG X M0 S C M j) (s : SOK_ S) (hj : j ≤ X.2) (hw : tw X j = 9) : RT (f_X6_personLine v vv ut 700) (fun r => RT (f_X12_line M) (fun m => LR X M0 j (r.1, r.2.1, r.2.2, vf, vp, vk) m)) := by
  obtain ⟨c1, c2, c3, c4, c5⟩ := c
  dsimp only at c1 c2 c3 c4 c5
  obtain ⟨s1, s2, s3, s4⟩ := s
  have g9 := g
  obtain ⟨g1, g2, g3, g4, ⟨g5, g8⟩, g6, g7⟩ := g9
  have n12 := s1.1
  have hn := b.1
  have tj := tk_j (X := X) (j := j) (by rw [tw_1 (by omega)]; omega)
  have ml : f_X12_line M = if dvn S.1 = 12 then f_X12_line_J26 1 M else f_X12_line_J26 0 M := by
    unfold f_X12_line
    rw [m_knownWord g1.1 g1.2.1, ob_some, hw, if_pos (show (9 : Nat) < 16 by omega), if_pos (show nI 9 = 9 from rfl), g3.1]
    by_cases e : dvn S.1 = 12
    · rw [if_pos e, if_pos (by rw [e]; rfl)]
    · rw [if_neg e, if_neg (show ¬ nI (dvn S.1) = (12 : Int32) from fun z => e ((nI_eq (b := 12) (by omega) (by omega)).mp z))]
  rw [ml]
  unfold f_X6_personLine
  rw [c2.1.1]
  by_cases e : dvn S.1 = 12
  · refine RT.itF (by rw [e]; decide) (RT.ret ?_)
    rw [if_pos e]
    unfold f_X12_line_J26
    rw [m_begins2 g1, ob_some, if_pos (show nI 0 = 0 from rfl)]
    have bl := g.bad (f := 2)
    refine ⟨_, j191_bad bl (by omega) (by omega), Or.inr ⟨2, j, by omega, by omega, rfl, c1.2.1, bl⟩⟩
  · rw [if_neg e]
    refine RT.itT (show nI (dvn S.1) < nI 12 from nI_lt (by omega) (by omega)) ?_
    refine RT.bind (c_next b c1) (fun v1 ⟨t1, _, _⟩ => ?_)
    unfold f_X12_line_J26
    obtain ⟨q1, e1, f1, k1, tf1⟩ := m_begins0 g1
    rw [e1, ob_some, f1, if_neg (show ¬ nI 1 = 0 by decide)]
    have gA := g.tf k1 tf1 (by omega)
    generalize q1.2 = M1 at *
    obtain ⟨_, a2, a3, a4, ⟨a5, a8⟩, a6, a7⟩ := gA
    have te9 := te_le X (j + 1)
    have tt9 := ts_te X (j + 1)
    have st9 := srt_le (tk X (j + 1))
    -- the fault's end
    have bad : ∀ f, f ≠ 0 → f ≤ 5 → ∀ x : Int32, f_X12_number M1 0 9 = some (x, upd (upd M1.1 9 (nI f)) 10 (nI (ts X (j + 1))), M1.2) → RT ((f_X12_readsPerson M1).bind (fun q30 => f_X12_line_J191 q30)) (fun m => LR X M0 j (nI f, v1, vv, vf, vp, vk) m) := by
      intro f f0 f5 x en
      have bl := BL_wrong (X := X) (j := j + 1) (f := f) a2
      unfold f_X12_readsPerson
      rw [bnd_nr, a3.1, en, ob_some, show (50 : Int32) + nI (dvn S.1) = nI (50 + dvn S.1) from nI_add 50 _, show (2 : Int32) + nI (dvn S.1) = nI (2 + dvn S.1) from nI_add 2 _, sx_grd (by omega) (by omega), sx_clamp (by omega), bnd_nr, sx_grd (by omega) (by omega), sx_clamp (by omega), bnd_nr]
      have bl2 : BL X M0 ((upd (upd M1.1 9 (nI f)) 10 (nI (ts X (j + 1))), M1.2.1, uA (uA M1.2.2 6 (50 + dvn S.1) x) 6 (2 + dvn S.1) (-1)) : MS) f (j + 1) := ⟨⟨bl.1.1, fun a ha => by
        show uA (uA M1.2.2 6 (50 + dvn S.1) x) 6 (2 + dvn S.1) (-1) a = _
        rw [uA_n (by omega), uA_n (by omega)]; exact a2.2 a ha⟩, bl.2⟩
      show RT ((((f_X12_isGood ((upd (upd M1.1 9 (nI f)) 10 (nI (ts X (j + 1))), M1.2.1, uA (uA M1.2.2 6 (50 + dvn S.1) x) 6 (2 + dvn S.1) (-1)) : MS))).bind _).bind _) _
      rw [isGood_0 bl2.2.1 f0 f5, ob_some, if_pos (show nI 0 = 0 from rfl), ob_some]
      exact ⟨_, j191_bad bl2 f0 f5, Or.inr ⟨f, j + 1, f0, f5, rfl, t1.2.1, bl2⟩⟩
    have num0 : f_X12_number M1 0 9 = (if M1.1 14 = 2 then (if (4 : Int32) < M1.1 16 then f_X12_number_J49 M1 else (if M1.1 17 < 0 then f_X12_number_J49 M1 else (if M1.1 17 ≤ 9 then f_X12_number_J54 M1 else f_X12_number_J49 M1))) else (f_X12_wrong M1 1).bind (fun q12 => f_X12_number_J54 q12)) := by
      unfold f_X12_number
      rw [isGood_1 k1.2.2.1, ob_some, if_neg (show ¬ nI 1 = 0 by decide)]
    have j54 : ∀ f, f ≠ 0 → f ≤ 5 → f_X12_number_J54 ((upd (upd M1.1 9 (nI f)) 10 (nI (ts X (j + 1))), M1.2) : MS) = some (M1.1 17, upd (upd M1.1 9 (nI f)) 10 (nI (ts X (j + 1))), M1.2) := by
      intro f f0 f5
      have bl := BL_wrong (X := X) (j := j + 1) (f := f) a2
      unfold f_X12_number_J54
      rw [bnd_nr, isGood_0 bl.2.1 f0 f5, ob_some, if_pos (show nI 0 = 0 from rfl)]
      show some (upd (upd M1.1 9 (nI f)) 10 (nI (ts X (j + 1))) 17, _) = _
      rw [pk_un (by omega), pk_un (by omega)]
    by_cases k2 : tk X (j + 1) = 2
    · refine RT.itT (kdT t1 k2) ?_
      rw [if_pos (by rw [k1.2.1.2.1, srt_2.mpr k2]; rfl), k1.2.1.2.2.2.1, k1.2.1.2.2.2.2.1 k2] at num0
      rw [t1.2.2.1, t1.2.1, sx_sub tt9]
      have tv9 := tv_lt k2
      have tl9 : tl X (j + 1) ≤ 700 := by unfold tl; omega
      by_cases z : 4 < tl X (j + 1)
      · refine RT.itT (show nI 4 < nI (te X (j + 1) - ts X (j + 1)) from nI_lt z (by omega)) (RT.ret ?_)
        rw [if_pos (show (4 : Int32) < nI (tl X (j + 1)) from nI_lt (a := 4) z (by omega))] at num0
        unfold f_X12_number_J49 at num0
        rw [show (2 : Int32) = nI 2 from rfl, k1.wrong, ob_some, j54 2 (by omega) (by omega)] at num0
        exact bad 2 (by omega) (by omega) _ num0
      · refine RT.itF (show ¬ nI 4 < nI (te X (j + 1) - ts X (j + 1)) from nI_nlt (by unfold tl at z; omega) (by omega)) ?_
        rw [if_neg (show ¬ (4 : Int32) < nI (tl X (j + 1)) from nI_nlt (a := 4) (by omega) (by omega)), if_neg (show ¬ nI (tv X (j + 1)) < (0 : Int32) from nI_nlt (b := 0) (by omega) (by omega))] at num0
        rw [t1.2.2.2.2 k2]
        by_cases y : tv X (j + 1) ≤ 9
        · refine RT.itT (show nI (tv X (j + 1)) ≤ nI 9 from nI_le y (by omega)) ?_
          rw [if_pos (show nI (tv X (j + 1)) ≤ (9 : Int32) from nI_le (b := 9) y (by omega))] at num0
          have tj1 := tk_j (X := X) (j := j + 1) (by omega)
          -- the class: the person
          have ap : RT (f_X10_addPerson vv (nI (tv X (j + 1)))) (fun r => DC r (dAdd S.1 (tv X (j + 1))) (dvh S.1)) := by
            unfold f_X10_addPerson
            simp (disch := omega) only [bnd_nr, li_0, li_1, li_2, li_3, li_4, li_5, li_6, li_7, li_8, li_9, li_10, li_11, li_12, li_13, li_14, li_15, li_16, li_17, li_18, li_19, li_20, li_21, li_22, li_23, li_24, li_25, li_26, li_27, li_28, li_29, li_30, li_31, li_32, li_33, li_34, li_35, li_36, li_37, li_38, li_39, li_40, li_41, li_42, li_43, li_44, li_45, li_46, li_47, li_48, li_49, li_50, li_51, li_52, li_53, li_54, li_55, li_56, li_57, li_58, li_59, li_60, li_61, li_62, li_63, li_64, li_74, li_86, li_87, li_88, li_96, li_97, li_98, li_99, li_100, li_101, li_102, li_103, li_104, li_105, li_107, li_108, li_109, li_110, li_111, li_112, li_114, li_115, li_116, li_117, li_118, li_121, li_122, li_124, li_136, li_148, li_160, li_680, li_200, li_201, li_255, li_700, li_950, li_1000, li_1400, li_3440, li_4096, li_9999, li_10000, li_20000, li_20033, li_20038, li_20124, li_32767, li_65535, li_1103515245, li_12345, li_m, sx_grd, sx_clamp, nI_add, sx_sub, pk_mul, sx_le, sx_lt, sx_eq, sx_eqm, sx_meq, sx_lem, sx_mle, sx_ltm, sx_mlt, sx_addm, sx_shl, sx_bit1, sx_bit0, fa_or, uA_s, uA_n, sA_s, sA_n, sx_uA, sx_uAn, sx_sAs, pk_us, pk_un, if_true, if_false, if_pos, if_neg, ob_some, Nat.add_zero, Nat.add_sub_cancel, eq_self, ne_eq, not_true, not_false_iff, false_or, true_or, or_false, or_true, false_and, true_and, and_false, and_true, c2.1.1]
            refine RT.ret ⟨⟨?_, ?_, ?_⟩, fun p hp => ?_, fun k hk => ?_⟩
            · simp (disch := omega) only [pk_us, pk_un]; rfl
            · simp (disch := omega) only [pk_us, pk_un]; exact c2.1.2.1
            · simp (disch := omega) only [pk_us, pk_un]; exact c2.1.2.2
            · have hp : p < dvn S.1 + 1 := hp
              by_cases ep : p = dvn S.1
              · rw [ep]
                have rr : dvr (dAdd S.1 (tv X (j + 1))) (dvn S.1) = tv X (j + 1) := if_pos rfl
                have xx : dvx (dAdd S.1 (tv X (j + 1))) (dvn S.1) = true := if_pos rfl
                rw [rr, xx]
                refine ⟨?_, ?_, (fun h => by cases h), ?_, ?_⟩
                · simp (disch := omega) only [uA_s, uA_n, pk_us, pk_un]
                · simp (disch := omega) only [uA_s, uA_n, pk_us, pk_un] <;> rfl
                · simp (disch := omega) only [uA_s, uA_n, pk_us, pk_un] <;> rfl
                · simp (disch := omega) only [uA_s, uA_n, pk_us, pk_un] <;> rfl
              · have old := c2.2.1 p (by omega)
                have rr : dvr (dAdd S.1 (tv X (j + 1))) p = dvr S.1 p := if_neg ep
                have xx : dvx (dAdd S.1 (tv X (j + 1))) p = dvx S.1 p := if_neg ep
                rw [rr, xx]
                refine ⟨?_, ?_, fun h => ?_, ?_, ?_⟩
                · simp (disch := omega) only [uA_s, uA_n, pk_us, pk_un]; exact old.1
                · simp (disch := omega) only [uA_s, uA_n, pk_us, pk_un]; exact old.2.1
                · simp (disch := omega) only [uA_s, uA_n, pk_us, pk_un]; exact old.2.2.1 h
                · simp (disch := omega) only [uA_s, uA_n, pk_us, pk_un]; exact old.2.2.2.1
                · simp (disch := omega) only [uA_s, uA_n, pk_us, pk_un]; exact old.2.2.2.2
            · rw [szo_add]
              simp (disch := omega) only [uA_s, uA_n, pk_us, pk_un]
              exact c2.2.2 k hk
          refine RT.bind ap (fun w1 dw => ?_)
          refine RT.bind (c_next b t1) (fun v2 ⟨t2, _, _⟩ => ?_)
          obtain ⟨r3, e3, le1, le2⟩ := c_lineEnd b t2
          rw [e3, ob_some]
          refine RT.ret ?_
          -- the reference: the person
          unfold f_X12_number_J54 at num0
          rw [bnd_nr, isGood_1 k1.2.2.1, ob_some, if_neg (show ¬ nI 1 = 0 by decide)] at num0
          obtain ⟨M2, e4, k3, tf2⟩ := k1.take
          rw [e4, ob_some, k1.2.1.2.2.2.2.1 k2] at num0
          unfold f_X12_readsPerson
          rw [bnd_nr, a3.1, num0, ob_some, show (50 : Int32) + nI (dvn S.1) = nI (50 + dvn S.1) from nI_add 50 _, show (2 : Int32) + nI (dvn S.1) = nI (2 + dvn S.1) from nI_add 2 _, sx_grd (by omega) (by omega), sx_clamp (by omega), bnd_nr, sx_grd (by omega) (by omega), sx_clamp (by omega), bnd_nr]
          have gB := (show MG X M0 S C M1 (j + 1) from ⟨k1, a2, a3, a4, ⟨a5, a8⟩, a6, a7⟩).tf k3 tf2 (by omega)
          obtain ⟨_, b2, b3, b4, ⟨b5, b8⟩, b6, b7⟩ := gB
          show RT ((((f_X12_isGood ((M2.1, M2.2.1, uA (uA M2.2.2 6 (50 + dvn S.1) (nI (tv X (j + 1)))) 6 (2 + dvn S.1) (-1)) : MS))).bind _).bind _) _
          rw [isGood_1 (z := ((M2.1, M2.2.1, uA (uA M2.2.2 6 (50 + dvn S.1) (nI (tv X (j + 1)))) 6 (2 + dvn S.1) (-1)) : MS)) k3.2.2.1, ob_some, if_neg (show ¬ nI 1 = 0 by decide), bnd_nr, ob_some]
          have gC : MG X M0 (dAdd S.1 (tv X (j + 1)), S.2) C ((upd M2.1 20 (M2.1 20 + 1), M2.2.1, uA (uA M2.2.2 6 (50 + dvn S.1) (nI (tv X (j + 1)))) 6 (2 + dvn S.1) (-1)) : MS) (j + 1 + 1) := by
            refine ⟨k3.fr (fun k hk => ?_) rfl ?_, ⟨fun k h1 h2 h3 => ?_, fun a ha => ?_⟩, ⟨?_, ⟨?_, ?_⟩, fun p hp => ?_, fun i hi => ?_⟩, b4.fr ?_ ?_, ⟨⟨?_, ?_⟩, b8⟩, ?_, ?_⟩
            · simp (disch := omega) only [pk_us, pk_un]
            · simp (disch := omega) only [uA_s, uA_n]
            · show upd M2.1 20 (M2.1 20 + 1) k = _
              rw [pk_un (by omega)]; exact b2.1 k h1 h2 h3
            · show uA (uA M2.2.2 6 (50 + dvn S.1) (nI (tv X (j + 1)))) 6 (2 + dvn S.1) (-1) a = _
              rw [uA_n (by omega), uA_n (by omega)]; exact b2.2 a ha
            · show upd M2.1 20 (M2.1 20 + 1) 20 = nI (dvn S.1 + 1)
              rw [pk_us, b3.1, nI_1]
            · simp (disch := omega) only [uA_s, uA_n, pk_us, pk_un]; exact b3.2.1.1
            · simp (disch := omega) only [uA_s, uA_n, pk_us, pk_un]; exact b3.2.1.2
            · have hp : p < dvn S.1 + 1 := hp
              by_cases ep : p = dvn S.1
              · rw [ep]
                have rr : dvr (dAdd S.1 (tv X (j + 1))) (dvn S.1) = tv X (j + 1) := if_pos rfl
                have xx : dvx (dAdd S.1 (tv X (j + 1))) (dvn S.1) = true := if_pos rfl
                rw [rr, xx]
                refine ⟨?_, ?_, fun h => by cases h⟩
                · simp (disch := omega) only [uA_s, uA_n, pk_us, pk_un]
                · simp (disch := omega) only [uA_s, uA_n, pk_us, pk_un] <;> rfl
              · have old := b3.2.2.1 p (by omega)
                have rr : dvr (dAdd S.1 (tv X (j + 1))) p = dvr S.1 p := if_neg ep
                have xx : dvx (dAdd S.1 (tv X (j + 1))) p = dvx S.1 p := if_neg ep
                rw [rr, xx]
                refine ⟨?_, ?_, fun h => ?_⟩
                · simp (disch := omega) only [uA_s, uA_n, pk_us, pk_un]; exact old.1
                · simp (disch := omega) only [uA_s, uA_n, pk_us, pk_un]; exact old.2.1
                · simp (disch := omega) only [uA_s, uA_n, pk_us, pk_un]; exact old.2.2 h
            · simp (disch := omega) only [uA_s, uA_n, pk_us, pk_un]; exact b3.2.2.2 i hi
            · simp (disch := omega) only [pk_us, pk_un]
            · simp (disch := omega) only [uA_s, uA_n]
            · simp (disch := omega) only [pk_us, pk_un]; exact b5.1
            · simp (disch := omega) only [uA_s, uA_n]; exact b5.2
            · simp (disch := omega) only [pk_us, pk_un]; exact b6
            · simp (disch := omega) only [pk_us, pk_un]; exact b7
          by_cases k9 : tk X (j + 1 + 1) = 59
          · have tj2 := tk_j (X := X) (j := j + 1 + 1) (by omega)
            obtain ⟨u1, u2⟩ := le1 k9
            refine RT.weak (j191_end gC.1 k9) (fun m ⟨m1, m2⟩ => Or.inl ⟨u1, (dAdd S.1 (tv X (j + 1)), S.2), C, j + 1 + 1 + 1, by omega, by omega, ⟨u2, dw, c3, c4, c5⟩, gC.tf m1 m2 (by omega), DW_add s1 (by omega) y, ⟨s2.1, fun k hk => ?_⟩, s3, s4⟩)
            have := s2.2 k hk
            exact ⟨by show S.2.1.2.1 k < dvn S.1 + 1; omega, by show S.2.1.2.2 k < dvn S.1 + 1; omega, this.2.2⟩
          · obtain ⟨u1, u2⟩ := le2 k9
            refine RT.weak (j191_mis gC.1 gC.2.1 k9) (fun m hm => Or.inr ⟨1, j + 1 + 1, by omega, by omega, u1, ?_, hm⟩)
            show r3.2.1 6 = _
            rw [u2]; exact t2.2.1
        · refine RT.itF (show ¬ nI (tv X (j + 1)) ≤ nI 9 from nI_ge (by omega) (by omega)) (RT.ret ?_)
          rw [if_neg (show ¬ nI (tv X (j + 1)) ≤ (9 : Int32) from nI_ge (a := 9) (by omega) (by omega))] at num0
          unfold f_X12_number_J49 at num0
          rw [show (2 : Int32) = nI 2 from rfl, k1.wrong, ob_some, j54 2 (by omega) (by omega)] at num0
          exact bad 2 (by omega) (by omega) _ num0
    · refine RT.itF (kdF t1 (c := 2) (by omega) k2) (RT.ret ?_)
      rw [if_neg (show ¬ M1.1 14 = (2 : Int32) from fun z => k2 (srt_2.mp ((nI_eq (b := 2) (by omega) (by omega)).mp (k1.2.1.2.1.symm.trans z)))), show (1 : Int32) = nI 1 from rfl, k1.wrong, ob_some, j54 1 (by omega) (by omega)] at num0
      exact bad 1 (by omega) (by omega) _ num0
end LNS
