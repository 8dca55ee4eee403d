/-! a house's line -/
def tpN (X : TX) (n j : Nat) : Nat := if tk X j = 2 then (if tl X j ≤ 4 then (if tv X j < n then 0 else 3) else 2) else 1
theorem tpN_le (X : TX) (n j : Nat) : tpN X n j ≤ 5 := by
  unfold tpN
  repeat' split
  all_goals omega
theorem tpN_0 {X : TX} {n j : Nat} (h : tpN X n j = 0) : tk X j = 2 ∧ tl X j ≤ 4 ∧ tv X j < n := by
  unfold tpN at h
  by_cases a : tk X j = 2
  · rw [if_pos a] at h
    by_cases b : tl X j ≤ 4
    · rw [if_pos b] at h
      by_cases c : tv X j < n
      · exact ⟨a, b, c⟩
      · rw [if_neg c] at h; omega
    · rw [if_neg b] at h; omega
  · rw [if_neg a] at h; omega
section HSE
variable {X : TX} {ut : Nat → Int32} {M0 M : MS} {S : SD} {C : List Nat} {v vv vf vp vk : Ob} {j : Nat}
theorem c_told {n : Nat} (b : TB X ut) (t : TC X v j) (h : vv.1 0 = nI n) (hn : n ≤ 12) : f_X6_toldPerson v vv = some (nI (tpN X n j)) := by
  have b1 := b.1
  have te9 := te_le X j
  unfold f_X6_toldPerson tpN
  by_cases k : tk X j = 2
  · rw [if_pos (show v.1 8 = 2 from kdT t k), if_pos k, t.2.2.1, t.2.1, sx_sub (ts_te X j), show (4 : Int32) = nI 4 from rfl]
    have tl9 : te X j - ts X j ≤ 700 := by omega
    have tv9 := tv_lt k
    simp only [sx_le (a := te X j - ts X j) (b := 4) (by omega) (by omega)]
    show (if tl X j ≤ 4 then _ else _) = _
    by_cases y : tl X j ≤ 4
    · rw [if_pos y, if_pos y, t.2.2.2.2 k, h]
      simp only [sx_lt (a := tv X j) (b := n) (by omega) (by omega)]
      by_cases w : tv X j < n
      · rw [if_pos w, if_pos w]; rfl
      · rw [if_neg w, if_neg w]; rfl
    · rw [if_neg y, if_neg y]; rfl
  · rw [if_neg (show ¬ v.1 8 = 2 from kdF t (c := 2) (by omega) k), if_neg k]; rfl
theorem m_oneOf {n : Nat} (h : TK X M j) (hn : n ≤ 12) : f_X12_isOneOf M (nI n) = some (if tpN X n j = 0 then (nI 1, M) else (nI 0, upd (upd M.1 9 (nI (tpN X n j))) 10 (nI (ts X j)), M.2)) := by
  have b1 := h.1.2.1
  have te9 := te_le X j
  have st9 := srt_le (tk X j)
  have bad : ∀ f, f ≠ 0 → f ≤ 5 → f_X12_isOneOf_J54 ((upd (upd M.1 9 (nI f)) 10 (nI (ts X j)), M.2) : MS) = some (nI 0, upd (upd M.1 9 (nI f)) 10 (nI (ts X j)), M.2) := by
    intro f f0 f5
    have bl := BL_wrong (X := X) (j := j) (f := f) (LF.refl M)
    unfold f_X12_isOneOf_J54
    rw [isGood_0 bl.2.1 f0 f5, ob_some]
    rfl
  unfold f_X12_isOneOf tpN
  rw [isGood_1 h.2.2.1, ob_some, if_neg (show ¬ nI 1 = 0 by decide), h.2.1.2.1]
  by_cases k : tk X j = 2
  · rw [if_pos (by rw [srt_2.mpr k]; rfl), h.2.1.2.2.2.1, if_pos k, show (4 : Int32) = nI 4 from rfl]
    have tl9 : tl X j ≤ 700 := by unfold tl; omega
    have tv9 := tv_lt k
    simp only [sx_le (a := tl X j) (b := 4) (by omega) (by omega)]
    by_cases y : tl X j ≤ 4
    · rw [if_pos y, if_pos y, h.2.1.2.2.2.2.1 k]
      simp only [sx_lt (a := tv X j) (b := n) (by omega) (by omega)]
      by_cases w : tv X j < n
      · rw [if_pos w, if_pos w, if_pos rfl]
        unfold f_X12_isOneOf_J54
        rw [isGood_1 h.2.2.1, ob_some]
        rfl
      · rw [if_neg w, if_neg w, if_neg (show ¬ (3 : Nat) = 0 by omega), show (3 : Int32) = nI 3 from rfl, h.wrong, ob_some, bad 3 (by omega) (by omega)]
    · rw [if_neg y, if_neg y, if_neg (show ¬ (2 : Nat) = 0 by omega), show (2 : Int32) = nI 2 from rfl, h.wrong, ob_some, bad 2 (by omega) (by omega)]
  · rw [if_neg (show ¬ nI (srt (tk X j)) = (2 : Int32) from fun z => k (srt_2.mp ((nI_eq (b := 2) (by omega) (by omega)).mp z))), if_neg k, if_neg (show ¬ (1 : Nat) = 0 by omega), show (1 : Int32) = nI 1 from rfl, h.wrong, ob_some, bad 1 (by omega) (by omega)]
theorem l_dwellers {D : DV} {R : FD × RLs × RLs} (b : TB X ut) (n7 : X.2 ≤ 700) (cf : FC vf R.1) (cp : RCn vp R.2.1) (ck : RCn vk R.2.2) (sp : RLok R.2.1 0 5) (sk : RLok R.2.2 4 8) (j0 : Nat) : ∀ (k i m j : Nat) (D : DV) (z vv : Ob) (M : MS), 710 ≤ k + j → 710 ≤ m + j → i ≤ j → j ≤ X.2 → j0 < j → TC X z j → DC vv D (dvh D + 1) → DW D (dvh D + 1) → dvh D ≤ 12 → FOK R.1 (dvn D) → MG X M0 (D, R) C M j → RT ((f_X6_dweller z vv ut 700 (nI (dvh D))).bind (fun q => f_X6_houseLine_L20 700 (nI (dvh D)) ut k q.1 (nI i) q.2.1 q.2.2)) (fun r => RT ((f_X12_readsHouse_L4 m (nI (szo D (dvh D))) 1 M).bind (fun q26 => f_X12_line_J191 q26)) (fun M' => LR X M0 j0 (r.1, r.2.1, r.2.2, vf, vp, vk) M')) := by
  intro k
  induction k with
  | zero => intro i m j D z vv M h1 h2 h3 h4; omega
  | succ k ih =>
    intro i m j D z vv M h1 h2 h3 h4 h0 t dc w hh12 fok g
    obtain ⟨m, rfl⟩ : ∃ m9, m = m9 + 1 := ⟨m - 1, by omega⟩
    have g9 := g
    obtain ⟨g1, g2, g3, g4, ⟨g5, g8⟩, g6, g7⟩ := g9
    dsimp only at g3 g4 g6 g7
    have n12 := w.1
    have tp5 := tpN_le X (dvn D) j
    -- the class's fault
    have cbad : ∀ f, f ≠ 0 → f ≤ 5 → f_X6_houseLine_L20 700 (nI (dvh D)) ut (k + 1) (nI f) (nI i) z vv = some (nI f, z, vv) := by
      intro f f0 f5
      unfold f_X6_houseLine_L20 f_X6_houseLine_J52
      rw [if_neg (nI_ne0 (by omega) (by omega)), if_neg (nI_ne0 (by omega) (by omega))]
      split <;> rfl
    unfold f_X6_dweller
    rw [c_told b t dc.1.1 n12, ob_some]
    unfold f_X12_readsHouse_L4
    rw [if_neg (show ¬ (1 : Int32) = 0 by decide), isGood_1 g1.2.2.1, ob_some, if_neg (show ¬ nI 1 = 0 by decide), g3.1, m_oneOf g1 n12, ob_some]
    by_cases tp : tpN X (dvn D) j = 0
    · obtain ⟨k2, l4, vn9⟩ := tpN_0 tp
      have tj := tk_j (X := X) (j := j) (by omega)
      rw [tp, if_pos (show nI 0 = 0 from rfl), if_pos rfl, if_neg (show ¬ nI 1 = 0 by decide), t.2.2.2.2 k2, sx_grd (by omega) (by omega), sx_clamp (by omega), (dc.2.1 _ vn9).2.1]
      dsimp only
      rw [g1.2.1.2.2.2.2.1 k2, show (2 : Int32) + nI (tv X j) = nI (2 + tv X j) from nI_add 2 _, sx_grd (by omega) (by omega), sx_clamp (by omega), (g3.2.2.1 _ vn9).2.1]
      cases ex : dvx D (tv X j)
      · rw [if_neg (show ¬ false = true by decide), if_neg (show ¬ nI (dvo D (tv X j)) = -1 from fun e => by
          have := (w.2.2.1 _ vn9 ex).1
          exact (sx_eqm (a := dvo D (tv X j)) (by omega)).mp e), if_neg (show ¬ nI (dvo D (tv X j)) = -1 from fun e => by
          have := (w.2.2.1 _ vn9 ex).1
          exact (sx_eqm (a := dvo D (tv X j)) (by omega)).mp e), ob_some]
        dsimp only
        rw [show (4 : Int32) = nI 4 from rfl, cbad 4 (by omega) (by omega), g1.wrong, ob_some]
        have bl := BL_wrong (X := X) (j := j) (f := 4) g2
        unfold f_X12_readsHouse_J47
        rw [isGood_0 bl.2.1 (by omega) (by omega), ob_some, if_pos (show nI 0 = 0 from rfl), ob_some]
        exact RT.ret ⟨_, j191_bad bl (by omega) (by omega), Or.inr ⟨4, j, by omega, by omega, rfl, t.2.1, bl⟩⟩
      · rw [if_pos rfl, if_pos (show mO = -1 from rfl), if_pos (show mO = -1 from rfl)]
        -- the class enters
        have ce := c_enter (I := vv.1) (A := vv.2) (p := tv X j) (h := dvh D) (by omega) (by omega)
        rw [show f_X10_enter vv (nI (tv X j)) (nI (dvh D)) = _ from ce, ob_some]
        obtain ⟨z1, e1, t1, _, _⟩ := c_next b t
        rw [e1, ob_some, ob_some]
        dsimp only
        have sz9 : szo D (dvh D) ≤ 12 := Nat.le_trans (fb_ct_le _ _) n12
        have dc1 : DC ((vv.1, uA (uA (uA (uA vv.2 2 (tv X j) (nI (dvh D))) 3 (tv X j) (vv.2 6 (dvh D))) 4 (tv X j) (vv.1 2)) 6 (dvh D) (vv.2 6 (dvh D) + nI 1)) : Ob) (dEnt D (tv X j)) (dvh D + 1) := by
          refine ⟨dc.1, fun p hp => ?_, fun q hq => ?_⟩
          · have old := dc.2.1 p hp
            by_cases ep : p = tv X j
            · subst ep
              rw [show dvx (dEnt D (tv X j)) (tv X j) = false from if_pos rfl, if_neg (show ¬ false = true by decide), show dvo (dEnt D (tv X j)) (tv X j) = dvh D from if_pos rfl, show dvp (dEnt D (tv X j)) (tv X j) = szo D (dvh D) from if_pos rfl]
              refine ⟨?_, ?_, fun _ => ?_, ?_, ?_⟩
              · simp (disch := omega) only [uA_s, uA_n, pk_us, pk_un]; exact old.1
              · simp (disch := omega) only [uA_s, uA_n, pk_us, pk_un]
              · simp (disch := omega) only [uA_s, uA_n, pk_us, pk_un]; exact (dc.2.2 (dvh D) (by omega)).1
              · simp (disch := omega) only [uA_s, uA_n, pk_us, pk_un]; exact dc.1.2.2
              · simp (disch := omega) only [uA_s, uA_n, pk_us, pk_un]; exact old.2.2.2.2
            · rw [show dvx (dEnt D (tv X j)) p = dvx D p from if_neg ep, show dvo (dEnt D (tv X j)) p = dvo D p from if_neg ep, show dvp (dEnt D (tv X j)) p = dvp D p from if_neg ep]
              refine ⟨?_, ?_, fun hx9 => ?_, ?_, ?_⟩
              · simp (disch := omega) only [uA_s, uA_n, pk_us, pk_un]; exact old.1
              · simp (disch := omega) only [uA_s, uA_n, pk_us, pk_un]; exact old.2.1
              · simp (disch := omega) only [uA_s, uA_n, pk_us, pk_un]; exact old.2.2.1 hx9
              · simp (disch := omega) only [uA_s, uA_n, pk_us, pk_un]; exact old.2.2.2.1
              · simp (disch := omega) only [uA_s, uA_n, pk_us, pk_un]; exact old.2.2.2.2
          · rw [szo_ent vn9 ex]
            refine ⟨?_, ?_⟩
            · by_cases eq9 : q = dvh D
              · subst eq9
                rw [if_pos rfl]
                simp (disch := omega) only [uA_s, uA_n, pk_us, pk_un]
                rw [(dc.2.2 (dvh D) (by omega)).1, nI_add]
              · rw [if_neg eq9, Nat.add_zero]
                simp (disch := omega) only [uA_s, uA_n, pk_us, pk_un]; exact (dc.2.2 q hq).1
            · simp (disch := omega) only [uA_s, uA_n, pk_us, pk_un]; exact (dc.2.2 q hq).2
        have w1 := DW_ent w vn9 ex
        have sz1 : szo (dEnt D (tv X j)) (dvh D) = szo D (dvh D) + 1 := by rw [szo_ent vn9 ex, if_pos rfl]
        -- the reference lays it
        unfold f_X12_readsHouse_J47
        rw [isGood_1 g1.2.2.1, ob_some, if_neg (show ¬ nI 1 = 0 by decide), g1.2.1.2.2.2.2.1 k2, show (1 : Int32) = nI 1 from rfl, sx_grd (by omega) (by omega), show (2 : Int32) + nI (tv X j) = nI (2 + tv X j) from nI_add 2 _, sx_grd (by omega) (by omega), sx_clamp (by omega), sx_clamp (by omega), g3.2.1.2, bnd_nr]
        dsimp only
        rw [g1.2.1.2.2.2.2.1 k2, show (14 : Int32) + nI (tv X j) = nI (14 + tv X j) from nI_add 14 _, sx_grd (by omega) (by omega), sx_clamp (by omega), bnd_nr, bnd_nr]
        have gB : MG X M0 (dEnt D (tv X j), R) C ((M.1, M.2.1, uA (uA M.2.2 6 (2 + tv X j) (nI (dvh D))) 6 (14 + tv X j) (nI (szo D (dvh D)))) : MS) j := by
          refine ⟨g1.fr (fun _ _ => rfl) rfl ?_, ⟨g2.1, fun a ha => ?_⟩, ⟨g3.1, ⟨?_, ?_⟩, fun p hp => ?_, fun q hq => ?_⟩, g4.fr rfl ?_, ⟨⟨g5.1, ?_⟩, g8⟩, g6, g7⟩
          · simp (disch := omega) only [uA_s, uA_n]
          · show uA (uA M.2.2 6 (2 + tv X j) (nI (dvh D))) 6 (14 + tv X j) (nI (szo D (dvh D))) a = _
            rw [uA_n (by omega), uA_n (by omega)]; exact g2.2 a ha
          · simp (disch := omega) only [uA_s, uA_n, pk_us, pk_un]; exact g3.2.1.1
          · simp (disch := omega) only [uA_s, uA_n, pk_us, pk_un]; exact g3.2.1.2
          · have hp : p < dvn D := hp
            have old := g3.2.2.1 p hp
            by_cases ep : p = tv X j
            · subst ep
              rw [show dvx (dEnt D (tv X j)) (tv X j) = false from if_pos rfl, if_neg (show ¬ false = true by decide), show dvo (dEnt D (tv X j)) (tv X j) = dvh D from if_pos rfl, show dvp (dEnt D (tv X j)) (tv X j) = szo D (dvh D) from if_pos rfl]
              refine ⟨?_, ?_, fun _ => ?_⟩
              · simp (disch := omega) only [uA_s, uA_n, pk_us, pk_un]; exact old.1
              · simp (disch := omega) only [uA_s, uA_n, pk_us, pk_un]
              · simp (disch := omega) only [uA_s, uA_n, pk_us, pk_un]
            · rw [show dvx (dEnt D (tv X j)) p = dvx D p from if_neg ep, show dvo (dEnt D (tv X j)) p = dvo D p from if_neg ep, show dvp (dEnt D (tv X j)) p = dvp D p from if_neg ep]
              refine ⟨?_, ?_, fun hx9 => ?_⟩
              · simp (disch := omega) only [uA_s, uA_n, pk_us, pk_un]; exact old.1
              · simp (disch := omega) only [uA_s, uA_n, pk_us, pk_un]; exact old.2.1
              · simp (disch := omega) only [uA_s, uA_n, pk_us, pk_un]; exact old.2.2 hx9
          · simp (disch := omega) only [uA_s, uA_n, pk_us, pk_un]; exact g3.2.2.2 q hq
          · simp (disch := omega) only [uA_s, uA_n]
          · simp (disch := omega) only [uA_s, uA_n]; exact g5.2
        obtain ⟨M2, e2, k3, tf2⟩ := gB.1.take
        rw [e2, ob_some]
        have gC := gB.tf k3 tf2 (by omega)
        have k14 := k3.2.1.2.1
        have st9 := srt_le (tk X (j + 1))
        -- class goes on
        unfold f_X6_houseLine_L20
        rw [t1.1, if_neg (show ¬ nI X.2 ≤ nI i from nI_ge (by omega) (by omega)), if_pos rfl]
        by_cases kk : tk X (j + 1) = 2
        · rw [if_pos (show z1.1 8 = 2 from kdT t1 kk), if_pos (by rw [k14, srt_2.mpr kk]; rfl)]
          simp only [bnd_nr, nI_1]
          rw [show (nI (szo D (dvh D)) + nI 1 : Int32) = nI (szo (dEnt D (tv X j)) (dvh (dEnt D (tv X j)))) from by rw [nI_add]; exact congrArg nI sz1.symm]
          exact ih (i + 1) m (j + 1) (dEnt D (tv X j)) z1 _ M2 (by omega) (by omega) (by omega) (by omega) (by omega) t1 dc1 w1 hh12 fok gC
        · rw [if_neg (show ¬ z1.1 8 = 2 from kdF t1 (c := 2) (by omega) kk), if_neg (show ¬ M2.1 14 = (2 : Int32) from fun e => kk (srt_2.mp ((nI_eq (b := 2) (by omega) (by omega)).mp (k14.symm.trans e))))]
          obtain ⟨m9, rfl⟩ : ∃ m9, m = m9 + 1 := ⟨m - 1, by omega⟩
          unfold f_X6_houseLine_J52
          rw [if_pos rfl]
          obtain ⟨r3, e3, le1, le2⟩ := c_lineEnd b t1
          rw [e3, ob_some]
          refine RT.ret ?_
          unfold f_X12_readsHouse_L4
          rw [if_pos (show (0 : Int32) = 0 from rfl), show (1 : Int32) = nI 1 from rfl, sx_grd (by omega) (by omega), sx_grd (by omega) (by omega), sx_clamp (by omega), bnd_nr, ob_some]
          obtain ⟨d1, d2, d3, d4, ⟨d5, d8⟩, d6, d7⟩ := gC
          dsimp only at d3 d4 d6 d7
          have gD : MG X M0 (dEnd (dEnt D (tv X j)), R) C ((M2.1, M2.2.1, uA M2.2.2 6 1 (M2.2.2 6 1 + nI 1)) : MS) (j + 1) := by
            refine ⟨d1.fr (fun _ _ => rfl) rfl ?_, ⟨d2.1, fun a ha => ?_⟩, ⟨d3.1, ⟨?_, ?_⟩, fun p hp => ?_, fun q hq => ?_⟩, d4.fr rfl ?_, ⟨⟨d5.1, ?_⟩, d8⟩, d6, d7⟩
            · simp (disch := omega) only [uA_s, uA_n]
            · show uA M2.2.2 6 1 (M2.2.2 6 1 + nI 1) a = _
              rw [uA_n (by omega)]; exact d2.2 a ha
            · simp (disch := omega) only [uA_s, uA_n, pk_us, pk_un]; exact d3.2.1.1
            · simp (disch := omega) only [uA_s, uA_n, pk_us, pk_un]; rw [d3.2.1.2, nI_add]; rfl
            · simp (disch := omega) only [uA_s, uA_n, pk_us, pk_un]; exact d3.2.2.1 p hp
            · simp (disch := omega) only [uA_s, uA_n, pk_us, pk_un]; exact d3.2.2.2 q hq
            · simp (disch := omega) only [uA_s, uA_n]
            · simp (disch := omega) only [uA_s, uA_n]; exact d5.2
          by_cases k9 : tk X (j + 1) = 59
          · have tj2 := tk_j (X := X) (j := j + 1) (by omega)
            obtain ⟨u1, u2⟩ := le1 k9
            refine RT.weak (j191_end gD.1 k9) (fun m ⟨m1, m2⟩ => Or.inl ⟨u1, (dEnd (dEnt D (tv X j)), R), C, j + 1 + 1, by omega, by omega, ⟨u2, dc1, cf, cp, ck⟩, gD.tf m1 m2 (by omega), DW_end w1 ?_, fok, sp, sk⟩)
            show 0 < szo (dEnt D (tv X j)) (dvh D)
            omega
          · obtain ⟨u1, u2⟩ := le2 k9
            refine RT.weak (j191_mis gD.1 gD.2.1 k9) (fun m hm => Or.inr ⟨1, j + 1, by omega, by omega, u1, ?_, hm⟩)
            show r3.2.1 6 = _
            rw [u2]; exact t1.2.1
    · rw [if_neg (nI_ne0 (by omega) (by omega)), if_neg tp, ob_some, if_pos (show nI 0 = 0 from rfl), ob_some]
      dsimp only
      rw [cbad _ tp tp5]
      have bl := BL_wrong (X := X) (j := j) (f := tpN X (dvn D) j) g2
      exact RT.ret ⟨_, j191_bad bl tp tp5, Or.inr ⟨tpN X (dvn D) j, j, tp, tp5, rfl, t.2.1, bl⟩⟩
theorem szo_0 {D : DV} (w : DW D (dvh D)) : szo D (dvh D) = 0 := fb_ct_zero.mpr (fun p hp => by
  cases e : dvx D p
  · rw [decide_eq_false (by have := (w.2.2.1 p hp e).1; omega)]; rfl
  · rw [Bool.not_true, Bool.and_false])
theorem l_house (b : TB X ut) (c : CG X S (v, vv, vf, vp, vk) j) (g : MG X M0 S C M j) (s : SOK_ S) (hj : j ≤ X.2) (hw : tw X j = 6) : RT (f_X6_houseLine v vv ut 700) (fun r => RT (f_X12_line M) (fun m => LR X M0 j (r.1, r.2.1, r.2.2, vf, vp, vk) m)) := by
  obtain ⟨c1, c2, c3, c4, c5⟩ := c
  dsimp only at c1 c2 c3 c4 c5
  obtain ⟨s1, s2, s3, s4⟩ := s
  have n12 := s1.1
  have hn9 := s1.hn
  have hn := b.1
  have tj := tk_j (X := X) (j := j) (by rw [tw_1 (by omega)]; omega)
  have g1 := g.1
  have ml : f_X12_line M = (f_X12_begins M 0 0).bind (fun q24 => (if q24.1 = 0 then f_X12_line_J191 q24.2 else (f_X12_readsHouse q24.2).bind (fun q26 => f_X12_line_J191 q26))) := by
    unfold f_X12_line
    rw [m_knownWord g1.1 g1.2.1, ob_some, hw, if_pos (show (6 : Nat) < 16 by omega), if_neg (show ¬ nI 6 = 9 by decide), if_pos (show nI 6 = 6 from rfl)]
  rw [ml]
  obtain ⟨q1, e1, f1, k1, tf1⟩ := m_begins0 g1
  rw [e1, ob_some, f1, if_neg (show ¬ nI 1 = 0 by decide)]
  have gA := g.tf k1 tf1 (by omega)
  generalize q1.2 = M1 at *
  unfold f_X6_houseLine
  have ah := c_addHouse (I := vv.1) (A := vv.2) (h := dvh S.1) c2.1.2.1 (by omega)
  rw [show f_X10_addHouse vv = _ from ah, ob_some]
  obtain ⟨v1, e2, t1, _, _⟩ := c_next b c1
  rw [e2, ob_some]
  dsimp only
  have dc1 : DC ((upd vv.1 1 (nI (dvh S.1 + 1)), uA (uA vv.2 6 (dvh S.1) (nI 0)) 7 (dvh S.1) (vv.1 2)) : Ob) S.1 (dvh S.1 + 1) := by
    refine ⟨⟨?_, ?_, ?_⟩, fun p hp => ?_, fun k hk => ?_⟩
    · simp (disch := omega) only [pk_us, pk_un]; exact c2.1.1
    · simp (disch := omega) only [pk_us, pk_un]
    · simp (disch := omega) only [pk_us, pk_un]; exact c2.1.2.2
    · simp (disch := omega) only [uA_s, uA_n, pk_us, pk_un]; exact c2.2.1 p hp
    · by_cases e : k = dvh S.1
      · subst e
        rw [szo_0 s1]
        simp (disch := omega) only [uA_s, uA_n, pk_us, pk_un]
        exact ⟨trivial, c2.1.2.2⟩
      · simp (disch := omega) only [uA_s, uA_n, pk_us, pk_un]; exact c2.2.2 k (by omega)
  obtain ⟨w1, w2, w3, w4, w5⟩ := s1
  have dw1 : DW S.1 (dvh S.1 + 1) := ⟨w1, w2, fun p hp hx => ⟨by have := (w3 p hp hx).1; omega, (w3 p hp hx).2⟩, w4, w5⟩
  have sz0 := szo_0 (D := S.1) ⟨w1, w2, w3, w4, w5⟩
  unfold f_X12_readsHouse
  have key := l_dwellers (D := S.1) (R := S.2) (M0 := M0) (C := C) b hn c3 c4 c5 s3 s4 j FUEL 0 FUEL (j + 1) S.1 v1 _ M1 (by unfold FUEL; omega) (by unfold FUEL; omega) (by omega) (by omega) (by omega) t1 dc1 dw1 (by omega) s2 gA
  rw [sz0] at key
  exact key
end HSE
