/-! the reference's reading of a rule: its state, its small ones -/
def XF (M r : MS) : Prop := (∀ k, k ≠ 9 → k ≠ 10 → (k < 13 ∨ 18 < k) → (k < 24 ∨ 28 < k) → r.1 k = M.1 k) ∧ ∀ a, (a < 7 ∨ 9 < a) → r.2.2 a = M.2.2 a
theorem XF.refl (M : MS) : XF M M := ⟨fun _ _ _ _ _ => rfl, fun _ _ => rfl⟩
theorem XF.trans {M r s : MS} (a : XF M r) (b : XF r s) : XF M s := ⟨fun k h1 h2 h3 h4 => (b.1 k h1 h2 h3 h4).trans (a.1 k h1 h2 h3 h4), fun q hq => (b.2 q hq).trans (a.2 q hq)⟩
theorem XF.tf {M r s : MS} (a : XF M r) (b : TF r s) : XF M s := ⟨fun k h1 h2 h3 h4 => (b.1 k (by omega)).trans (a.1 k h1 h2 h3 h4), fun q hq => by rw [b.2]; exact a.2 q hq⟩
def GM (X : TX) (lo hi : Nat) (M0 : MS) (C W : List Nat) (d : Nat) (tst : Nat → Bool) (z : MS) (j : Nat) : Prop := TXm X z ∧ TM X z j ∧ (z.1 9 = 0 ∧ z.1 10 = mO) ∧ (z.1 25 = nI lo ∧ z.1 26 = nI hi) ∧ (z.1 24 = nI C.length ∧ cdl (z.2.2 7) C) ∧ (z.1 27 = nI W.length ∧ stk (z.2.2 8) W) ∧ (z.1 28 = nI d ∧ ∀ i, 1 ≤ i → i ≤ d → z.2.2 9 i = nI (if tst i then 1 else 0)) ∧ XF M0 z
/-- bounds: of code and of what waits -/
def BD (X : TX) (C W : List Nat) (j : Nat) : Prop := C.length + W.length + 2 ≤ 2 * j ∧ W.length < j ∧ j ≤ X.2
def BE (X : TX) (M0 r : MS) (f j : Nat) : Prop := XF M0 r ∧ r.1 9 = nI f ∧ r.1 10 = nI (ts X j)
def BM (X : TX) (M0 r : MS) (f j : Nat) : Prop := BE X M0 r f j ∧ (f ≠ 0 ∧ f ≤ 5) ∧ ∃ c a, r.1 24 = nI c ∧ r.1 27 = nI a ∧ a ≤ 949 ∧ c + a < 1400
theorem isGood_1 {z : MS} (h : z.1 9 = 0) : f_X12_isGood z = some (nI 1) := by unfold f_X12_isGood; rw [if_pos h]; rfl
theorem isGood_0 {z : MS} {f : Nat} (h : z.1 9 = nI f) (h0 : f ≠ 0) (h5 : f ≤ 5) : f_X12_isGood z = some (nI 0) := by
  unfold f_X12_isGood
  rw [if_neg (by rw [h]; exact nI_ne0 (by omega) (by omega))]; rfl
section GMs
variable {X : TX} {lo hi : Nat} {M0 : MS} {C W : List Nat} {d : Nat} {tst : Nat → Bool} {z : MS} {j : Nat}
theorem GM.good (g : GM X lo hi M0 C W d tst z j) : f_X12_isGood z = some (nI 1) := isGood_1 g.2.2.1.1
theorem BM.bad {f : Nat} (b : BM X M0 z f j) : f_X12_isGood z = some (nI 0) := isGood_0 b.1.2.1 b.2.1.1 b.2.1.2
theorem GM.n (g : GM X lo hi M0 C W d tst z j) : X.2 ≤ 700 := g.1.2.1
theorem m_take (g : GM X lo hi M0 C W d tst z j) : RT (f_X12_takes z) (fun r => GM X lo hi M0 C W d tst r (j + 1)) := by
  obtain ⟨g1, g2, g3, g4, g5, g6, g7, g8⟩ := g
  refine RT.weak (m_takes g1 g2) (fun r ⟨t, f⟩ => ?_)
  refine ⟨g1.tf f, t, ⟨(f.1 9 (by omega)).trans g3.1, (f.1 10 (by omega)).trans g3.2⟩, ⟨(f.1 25 (by omega)).trans g4.1, (f.1 26 (by omega)).trans g4.2⟩, ⟨(f.1 24 (by omega)).trans g5.1, ?_⟩, ⟨(f.1 27 (by omega)).trans g6.1, ?_⟩, ⟨(f.1 28 (by omega)).trans g7.1, ?_⟩, g8.tf f⟩
  · rw [f.2]; exact g5.2
  · rw [f.2]; exact g6.2
  · rw [f.2]; exact g7.2
theorem m_waits {a : Nat} (g : GM X lo hi M0 C W d tst z j) (hw : W.length < 950) (ha : a < 32) : RT (f_X12_waitsFor z (nI a)) (fun r => GM X lo hi M0 C (a :: W) d tst r j) := by
  obtain ⟨g1, g2, g3, g4, g5, g6, g7, g8⟩ := g
  unfold f_X12_waitsFor
  rw [g6.1, sx_grd hw (by omega), sx_clamp (by omega), bnd_nr, bnd_nr]
  refine RT.ret ⟨⟨?_, g1.2.1, fun i hi => ⟨(g1.2.2 i hi).1, ?_⟩⟩, ⟨?_, ?_, ?_, ?_, fun h => ?_, fun h => ?_, g2.2.2.2.2.2.2⟩, ?_, ⟨?_, ?_⟩, ⟨?_, ?_⟩, ⟨?_, ?_⟩, ⟨?_, fun i i1 hi => ?_⟩, ⟨fun k h1 h2 h3 h4 => ?_, fun q hq => ?_⟩⟩
  · simp (disch := omega) only [pk_us, pk_un]; exact g1.1
  · show uA z.2.2 8 W.length (nI a) 3 i = _
    rw [uA_n (by omega)]; exact (g1.2.2 i hi).2
  · simp (disch := omega) only [pk_us, pk_un]; exact g2.1
  · simp (disch := omega) only [pk_us, pk_un]; exact g2.2.1
  · simp (disch := omega) only [pk_us, pk_un]; exact g2.2.2.1
  · simp (disch := omega) only [pk_us, pk_un]; exact g2.2.2.2.1
  · simp (disch := omega) only [pk_us, pk_un]; exact g2.2.2.2.2.1 h
  · simp (disch := omega) only [pk_us, pk_un]; exact g2.2.2.2.2.2.1 h
  · simp (disch := omega) only [pk_us, pk_un]; exact g3
  · simp (disch := omega) only [pk_us, pk_un]; exact g4.1
  · simp (disch := omega) only [pk_us, pk_un]; exact g4.2
  · simp (disch := omega) only [pk_us, pk_un]; exact g5.1
  · show cdl (uA z.2.2 8 W.length (nI a) 7) C
    rw [uA_n (by omega)]; exact g5.2
  · simp (disch := omega) only [pk_us, pk_un]; rw [g6.1, nI_1]; rfl
  · show stk (uA z.2.2 8 W.length (nI a) 8) (a :: W)
    rw [uA_s]; exact stk_push ha g6.2
  · simp (disch := omega) only [pk_us, pk_un]; exact g7.1
  · show uA z.2.2 8 W.length (nI a) 9 i = _
    rw [uA_n (by omega)]; exact g7.2 i i1 hi
  · simp (disch := omega) only [pk_us, pk_un]; exact g8.1 k h1 h2 h3 h4
  · show uA z.2.2 8 W.length (nI a) q = _
    rw [uA_n (by omega)]; exact g8.2 q hq
theorem m_puts {a : Nat} (g : GM X lo hi M0 C W d tst z j) (hw : C.length < 1400) : RT (f_X12_puts z (nI a)) (fun r => GM X lo hi M0 (C ++ [a]) W d tst r j ∧ r.1 17 = z.1 17) := by
  obtain ⟨g1, g2, g3, g4, g5, g6, g7, g8⟩ := g
  unfold f_X12_puts
  rw [g5.1, sx_grd hw (by omega), sx_clamp (by omega), bnd_nr, bnd_nr]
  refine RT.ret ⟨⟨⟨?_, g1.2.1, fun i hi => ⟨(g1.2.2 i hi).1, ?_⟩⟩, ⟨?_, ?_, ?_, ?_, fun h => ?_, fun h => ?_, g2.2.2.2.2.2.2⟩, ?_, ⟨?_, ?_⟩, ⟨?_, ?_⟩, ⟨?_, ?_⟩, ⟨?_, fun i i1 hi => ?_⟩, ⟨fun k h1 h2 h3 h4 => ?_, fun q hq => ?_⟩⟩, ?_⟩
  · simp (disch := omega) only [pk_us, pk_un]; exact g1.1
  · show uA z.2.2 7 C.length (nI a) 3 i = _
    rw [uA_n (by omega)]; exact (g1.2.2 i hi).2
  · simp (disch := omega) only [pk_us, pk_un]; exact g2.1
  · simp (disch := omega) only [pk_us, pk_un]; exact g2.2.1
  · simp (disch := omega) only [pk_us, pk_un]; exact g2.2.2.1
  · simp (disch := omega) only [pk_us, pk_un]; exact g2.2.2.2.1
  · simp (disch := omega) only [pk_us, pk_un]; exact g2.2.2.2.2.1 h
  · simp (disch := omega) only [pk_us, pk_un]; exact g2.2.2.2.2.2.1 h
  · simp (disch := omega) only [pk_us, pk_un]; exact g3
  · simp (disch := omega) only [pk_us, pk_un]; exact g4.1
  · simp (disch := omega) only [pk_us, pk_un]; exact g4.2
  · simp (disch := omega) only [pk_us, pk_un]; rw [g5.1, nI_1, List.length_append]; rfl
  · show cdl (uA z.2.2 7 C.length (nI a) 7) (C ++ [a])
    rw [uA_s]; exact cdl_push g5.2
  · simp (disch := omega) only [pk_us, pk_un]; exact g6.1
  · show stk (uA z.2.2 7 C.length (nI a) 8) W
    rw [uA_n (by omega)]; exact g6.2
  · simp (disch := omega) only [pk_us, pk_un]; exact g7.1
  · show uA z.2.2 7 C.length (nI a) 9 i = _
    rw [uA_n (by omega)]; exact g7.2 i i1 hi
  · simp (disch := omega) only [pk_us, pk_un]; exact g8.1 k h1 h2 h3 h4
  · show uA z.2.2 7 C.length (nI a) q = _
    rw [uA_n (by omega)]; exact g8.2 q hq
  · simp (disch := omega) only [pk_us, pk_un]
theorem m_putsB {f : Nat} {x : Int32} {c a : Nat} (b : BE X M0 z f j) (hc : z.1 24 = nI c) (ha : z.1 27 = nI a) (hl : c < 1400) : RT (f_X12_puts z x) (fun r => BE X M0 r f j ∧ r.1 24 = nI (c + 1) ∧ r.1 27 = nI a) := by
  unfold f_X12_puts
  rw [hc, sx_grd hl (by omega), bnd_nr, bnd_nr]
  refine RT.ret ⟨⟨⟨fun k h1 h2 h3 h4 => ?_, fun q hq => ?_⟩, ?_, ?_⟩, ?_, ?_⟩
  · simp (disch := omega) only [pk_us, pk_un]; exact b.1.1 k h1 h2 h3 h4
  · show uA z.2.2 7 _ x q = _
    rw [uA_n (by omega)]; exact b.1.2 q hq
  · simp (disch := omega) only [pk_us, pk_un]; exact b.2.1
  · simp (disch := omega) only [pk_us, pk_un]; exact b.2.2
  · simp (disch := omega) only [pk_us, pk_un]; rw [hc, nI_1]
  · simp (disch := omega) only [pk_us, pk_un]; exact ha
theorem m_wrong {f : Nat} (g : GM X lo hi M0 C W d tst z j) : RT (f_X12_wrong z (nI f)) (fun r => BE X M0 r f j ∧ r.1 24 = nI C.length ∧ r.1 27 = nI W.length ∧ r.1 17 = z.1 17 ∧ r.1 14 = z.1 14 ∧ r.1 28 = z.1 28) := by
  obtain ⟨g1, g2, g3, g4, g5, g6, g7, g8⟩ := g
  unfold f_X12_wrong
  refine RT.itT g3.1 ?_
  rw [bnd_nr, bnd_nr]
  refine RT.ret ⟨⟨⟨fun k h1 h2 h3 h4 => ?_, g8.2⟩, ?_, ?_⟩, ?_, ?_, ?_, ?_, ?_⟩
  · simp (disch := omega) only [pk_us, pk_un]; exact g8.1 k h1 h2 h3 h4
  · simp (disch := omega) only [pk_us, pk_un]
  · simp (disch := omega) only [pk_us, pk_un]; exact g2.2.2.1
  · simp (disch := omega) only [pk_us, pk_un]; exact g5.1
  · simp (disch := omega) only [pk_us, pk_un]; exact g6.1
  · simp (disch := omega) only [pk_us, pk_un]
  · simp (disch := omega) only [pk_us, pk_un]
  · simp (disch := omega) only [pk_us, pk_un]
/-- drops: what is at least so strong goes into the code -/
theorem m_drops0 {k : Nat} (hk : k ≤ 6) : ∀ (P : List Nat) (z : MS) (C : List Nat) (n : Nat), GM X lo hi M0 C (P ++ W) d tst z j → C.length + P.length ≤ 1400 → (P ++ W).length ≤ 950 → (∀ a ∈ P, k ≤ str a ∧ a < 14) → TL W k → P.length < n → RT (f_X12_drops_L0 (nI k) n z) (fun r => GM X lo hi M0 (C ++ P) W d tst r j)
  | [], z, C, 0, _, _, _, _, _, hn => absurd hn (Nat.not_lt_zero _)
  | [], z, C, n + 1, g, _, hw, _, t, _ => by
    rw [List.append_nil]
    have g : GM X lo hi M0 C W d tst z j := g
    unfold f_X12_drops_L0
    rw [g.2.2.2.2.2.1.1]
    have hw : W.length ≤ 950 := hw
    cases W with
    | nil => exact RT.itT (show nI 0 ≤ 0 by decide) (RT.ret g)
    | cons a W =>
      have hw : W.length + 1 ≤ 950 := hw
      obtain ⟨⟨s1, s2⟩, _⟩ := g.2.2.2.2.2.1.2
      refine RT.itF (show ¬ nI (W.length + 1) ≤ 0 from nI_nle (by omega) (by omega)) ?_
      rw [show nI (a :: W).length - (1 : Int32) = nI W.length from nI_pred _, sx_grd (by omega) (by omega), sx_clamp (by omega), s1, m_isOpen s2, ob_some]
      by_cases o : a < 14
      · rw [if_pos o]
        refine RT.itT rfl ?_
        rw [sx_grd (by omega) (by omega), m_strength a s2, ob_some]
        have : str a < k := by
          rcases t with t | t
          · omega
          · exact t
        exact RT.itT (nI_lt this (by omega)) (RT.ret g)
      · rw [if_neg o]
        exact RT.itF (show ¬ nI 1 = 0 by decide) (RT.ret g)
  | a :: P, z, C, 0, _, _, _, _, _, hn => absurd hn (Nat.not_lt_zero _)
  | a :: P, z, C, n + 1, g, hc, hw, hp, t, hn => by
    have hc : C.length + (P.length + 1) ≤ 1400 := hc
    have hw : (P ++ W).length + 1 ≤ 950 := hw
    have hn : P.length + 1 < n + 1 := hn
    obtain ⟨⟨s1, s2⟩, s3⟩ := g.2.2.2.2.2.1.2
    have s1 : z.2.2 8 (P ++ W).length = nI a := s1
    have s3 : stk (z.2.2 8) (P ++ W) := s3
    have w9 : z.1 27 = nI ((P ++ W).length + 1) := g.2.2.2.2.2.1.1
    obtain ⟨p1, p2⟩ := hp a (List.mem_cons_self ..)
    have sl := str_le a
    unfold f_X12_drops_L0
    rw [w9]
    refine RT.itF (nI_nle (by omega) (by omega)) ?_
    rw [show nI ((P ++ W).length + 1) - (1 : Int32) = nI (P ++ W).length from nI_pred _, sx_grd (by omega) (by omega), sx_clamp (by omega), s1, m_isOpen s2, ob_some, if_pos p2]
    refine RT.itT rfl ?_
    rw [sx_grd (by omega) (by omega), m_strength a s2, ob_some]
    refine RT.itF (nI_nlt p1 (by omega)) ?_
    rw [bnd_nr]
    have g2 : GM X lo hi M0 C (P ++ W) d tst ((upd z.1 27 (nI (P ++ W).length), z.2) : MS) j := by
      obtain ⟨g1, g2, g3, g4, g5, g6, g7, g8⟩ := g
      refine ⟨⟨?_, g1.2.1, g1.2.2⟩, ⟨?_, ?_, ?_, ?_, fun h => ?_, fun h => ?_, g2.2.2.2.2.2.2⟩, ?_, ⟨?_, ?_⟩, ⟨?_, g5.2⟩, ⟨?_, s3⟩, ⟨?_, g7.2⟩, ⟨fun k h1 h2 h3 h4 => ?_, g8.2⟩⟩
      · simp (disch := omega) only [pk_us, pk_un]; exact g1.1
      · simp (disch := omega) only [pk_us, pk_un]; exact g2.1
      · simp (disch := omega) only [pk_us, pk_un]; exact g2.2.1
      · simp (disch := omega) only [pk_us, pk_un]; exact g2.2.2.1
      · simp (disch := omega) only [pk_us, pk_un]; exact g2.2.2.2.1
      · simp (disch := omega) only [pk_us, pk_un]; exact g2.2.2.2.2.1 h
      · simp (disch := omega) only [pk_us, pk_un]; exact g2.2.2.2.2.2.1 h
      · simp (disch := omega) only [pk_us, pk_un]; exact g3
      · simp (disch := omega) only [pk_us, pk_un]; exact g4.1
      · simp (disch := omega) only [pk_us, pk_un]; exact g4.2
      · simp (disch := omega) only [pk_us, pk_un]; exact g5.1
      · simp (disch := omega) only [pk_us, pk_un]
      · simp (disch := omega) only [pk_us, pk_un]; exact g7.1
      · simp (disch := omega) only [pk_us, pk_un]; exact g8.1 k h1 h2 h3 h4
    have e27 : ((upd z.1 27 (nI (P ++ W).length), z.2) : MS).1 27 = nI (P ++ W).length := by simp (disch := omega) only [pk_us, pk_un]
    show RT (grd (vi (((upd z.1 27 (nI (P ++ W).length), z.2) : MS).1 27) 950) ((f_X12_puts ((upd z.1 27 (nI (P ++ W).length), z.2) : MS) (z.2.2 8 ((((upd z.1 27 (nI (P ++ W).length), z.2) : MS).1 27)).toNatClampNeg)).bind (fun q10 => f_X12_drops_L0 (nI k) n q10))) _
    rw [e27, sx_grd (by omega) (by omega), sx_clamp (by omega), s1]
    refine RT.bind (m_puts g2 (by omega)) (fun r ⟨r1, _⟩ => ?_)
    refine RT.weak (m_drops0 hk P r (C ++ [a]) n r1 (by rw [List.length_append]; show C.length + 1 + P.length ≤ 1400; omega) (by omega) (fun b hb => hp b (List.mem_cons_of_mem _ hb)) t (by omega)) (fun q hq => ?_)
    rw [List.append_assoc] at hq
    exact hq
theorem m_drops {k : Nat} {P : List Nat} (hk : k ≤ 6) (g : GM X lo hi M0 C (P ++ W) d tst z j) (b : BD X C (P ++ W) j) (hp : ∀ a ∈ P, k ≤ str a ∧ a < 14) (t : TL W k) : RT (f_X12_drops z (nI k)) (fun r => GM X lo hi M0 (C ++ P) W d tst r j ∧ BD X (C ++ P) W j) := by
  have hn := g.n
  obtain ⟨b1, b2, b3⟩ := b
  have e : (P ++ W).length = P.length + W.length := List.length_append
  refine RT.weak (m_drops0 hk P z C FUEL g (by omega) (by omega) hp t (by unfold FUEL; omega)) (fun r hr => ⟨hr, ?_, by omega, b3⟩)
  rw [List.length_append]; omega
/-- a fault ends it all -/
theorem m_dropsB {f : Nat} : ∀ (a : Nat) (z : MS) (c n : Nat), BE X M0 z f j → z.1 24 = nI c → z.1 27 = nI a → a ≤ 949 → c + a < 1400 → a < n → RT (f_X12_drops_L0 (nI 0) n z) (fun r => BE X M0 r f j ∧ ∃ c', r.1 24 = nI c' ∧ c' < 1400)
  | a, z, c, 0, _, _, _, _, _, hn => absurd hn (Nat.not_lt_zero _)
  | 0, z, c, n + 1, b, hc, ha, _, hl, _ => by
    unfold f_X12_drops_L0
    rw [ha]
    exact RT.itT (show nI 0 ≤ 0 by decide) (RT.ret ⟨b, c, hc, by omega⟩)
  | a + 1, z, c, n + 1, b, hc, ha, h9, hl, hn => by
    unfold f_X12_drops_L0
    rw [ha]
    refine RT.itF (nI_nle (by omega) (by omega)) ?_
    rw [show nI (a + 1) - (1 : Int32) = nI a from nI_pred _, sx_grd (by omega) (by omega), sx_clamp (by omega)]
    generalize hx : z.2.2 8 a = x
    have io : RT (f_X12_isOpen x) (fun _ => True) := by
      unfold f_X12_isOpen
      exact RT.ite (fun _ => RT.ret trivial) (fun _ => RT.ret trivial)
    refine RT.bind io (fun q _ => ?_)
    refine RT.ite (fun _ => ?_) (fun _ => RT.ret ⟨b, c, hc, by omega⟩)
    rw [sx_grd (by omega) (by omega)]
    have is : RT (f_X12_strength x) (fun _ => True) := by
      unfold f_X12_strength
      repeat' (refine RT.ite (fun _ => RT.ret trivial) (fun _ => ?_))
      exact RT.ret trivial
    refine RT.bind is (fun q6 _ => ?_)
    refine RT.ite (fun _ => RT.ret ⟨b, c, hc, by omega⟩) (fun _ => ?_)
    rw [bnd_nr]
    have e27 : ((upd z.1 27 (nI a), z.2) : MS).1 27 = nI a := by simp (disch := omega) only [pk_us, pk_un]
    have b2 : BE X M0 ((upd z.1 27 (nI a), z.2) : MS) f j := ⟨⟨fun k h1 h2 h3 h4 => by
      show upd z.1 27 (nI a) k = _
      rw [pk_un (by omega)]; exact b.1.1 k h1 h2 h3 h4, b.1.2⟩, by simp (disch := omega) only [pk_us, pk_un]; exact b.2.1, by simp (disch := omega) only [pk_us, pk_un]; exact b.2.2⟩
    have e24 : ((upd z.1 27 (nI a), z.2) : MS).1 24 = nI c := by simp (disch := omega) only [pk_us, pk_un]; exact hc
    show RT (grd (vi (((upd z.1 27 (nI a), z.2) : MS).1 27) 950) _) _
    rw [e27, sx_grd (by omega) (by omega)]
    refine RT.bind (m_putsB b2 e24 e27 (by omega)) (fun r ⟨r1, r2, r3⟩ => ?_)
    exact m_dropsB a r (c + 1) n r1 r2 r3 (by omega) (by omega) (by omega)
theorem m_360 {f : Nat} {Q : MS → Prop} (b : BM X M0 z f j) (hQ : ∀ r, BE X M0 r f j → Q r) : RT (f_X12_expression_J360 z) Q := by
  obtain ⟨b1, ⟨b2, b3⟩, c, a, h1, h2, h3, h4⟩ := b
  unfold f_X12_expression_J360 f_X12_drops
  refine RT.bind (m_dropsB a z c FUEL b1 h1 h2 h3 h4 (by unfold FUEL; omega)) (fun r ⟨r1, c', r2, r3⟩ => ?_)
  unfold f_X12_puts
  rw [r2, sx_grd r3 (by omega), bnd_nr, bnd_nr, ob_some]
  refine RT.ret (hQ _ ⟨⟨fun k h1 h2 h3 h4 => ?_, fun q hq => ?_⟩, ?_, ?_⟩)
  · simp (disch := omega) only [pk_us, pk_un]; exact r1.1.1 k h1 h2 h3 h4
  · show uA r.2.2 7 _ _ q = _
    rw [uA_n (by omega)]; exact r1.1.2 q hq
  · simp (disch := omega) only [pk_us, pk_un]; exact r1.2.1
  · simp (disch := omega) only [pk_us, pk_un]; exact r1.2.2
theorem m_bad {f n : Nat} {Q : MS → Prop} (b : BM X M0 z f j) (hQ : ∀ r, BE X M0 r f j → Q r) (hn : 0 < n) : RT (f_X12_expression_L39 n 1 z) Q := by
  obtain ⟨m, rfl⟩ : ∃ m, n = m + 1 := ⟨n - 1, by omega⟩
  unfold f_X12_expression_L39
  refine RT.itF (by decide) ?_
  rw [b.bad, ob_some]
  refine RT.itT rfl ?_
  unfold f_X12_expression_J340
  rw [b.bad, ob_some]
  exact RT.itT rfl (m_360 b hQ)
/-- a fault within operand -/
theorem m_opBad {f m : Nat} {l2 : Int32} {Q : MS → Prop} (b : BM X M0 z f j) (hm : 0 < m) (hQ : Q z) : RT (f_X12_operand_L4 m l2 0 z) Q := by
  obtain ⟨m9, rfl⟩ : ∃ m9, m = m9 + 1 := ⟨m - 1, by omega⟩
  unfold f_X12_operand_L4
  refine RT.itT rfl ?_
  unfold f_X12_operand_J120 f_X12_part
  rw [b.bad, ob_some, if_pos (show nI 0 = 0 from rfl), ob_some]
  exact RT.ret hQ
theorem m_opBad1 {f m : Nat} {l2 : Int32} {Q : MS → Prop} (b : BM X M0 z f j) (hm : 0 < m) (hQ : Q z) : RT (f_X12_operand_L4 m l2 1 z) Q := by
  obtain ⟨m9, rfl⟩ : ∃ m9, m = m9 + 1 := ⟨m - 1, by omega⟩
  unfold f_X12_operand_L4
  refine RT.itF (by decide) ?_
  rw [b.bad, ob_some]
  refine RT.itT rfl ?_
  unfold f_X12_operand_J120 f_X12_part
  rw [b.bad, ob_some, if_pos (show nI 0 = 0 from rfl), ob_some]
  exact RT.ret hQ
theorem m_j75Bad {f m : Nat} {l2 : Int32} {Q : MS → Prop} (b : BM X M0 z f j) (hm : 0 < m) (hQ : Q z) : RT (f_X12_operand_J75 (f_X12_operand_L4 m) l2 z) Q := by
  unfold f_X12_operand_J75
  rw [b.bad, ob_some]
  refine RT.itT rfl ?_
  unfold f_X12_operand_J95 f_X12_operand_J96
  exact RT.itT rfl (m_opBad b hm hQ)
end GMs
