/-! what an act leaves -/
def FRm (M r : MS) : Prop := (∀ k, k ≠ 36 → k ≠ 41 → r.1 k = M.1 k) ∧ ∀ j, j ≠ 10 → j ≠ 11 → j ≠ 12 → j ≠ 13 → j ≠ 14 → r.2.2 j = M.2.2 j
section FRS
variable {V V' : VT} {E E' : RE} {F : FD} {S : SN} {A A' : AC} {IB : Bool} {I : IG} {T : Nat → Nat} {k : Nat} {z : LZ} {ar : Nat → Int32}
theorem MX.fr {M r : MS} (h : MX V E F S A IB I M) (f : FRm M r) (v : VM r 0 V') (a : AMr (r.1 36) (r.2.2 11) A') : MX V' E F S A' IB I r := by
  obtain ⟨h1, h2, h3, h4, h5, h6⟩ := h
  have i : ∀ k, k ≠ 36 → k ≠ 41 → r.1 k = M.1 k := f.1
  have e2 : r.2.2 2 = M.2.2 2 := f.2 2 (by omega) (by omega) (by omega) (by omega) (by omega)
  have e1 : r.2.2 1 = M.2.2 1 := f.2 1 (by omega) (by omega) (by omega) (by omega) (by omega)
  have e20 : r.2.2 20 = M.2.2 20 := f.2 20 (by omega) (by omega) (by omega) (by omega) (by omega)
  have e23 : r.2.2 23 = M.2.2 23 := f.2 23 (by omega) (by omega) (by omega) (by omega) (by omega)
  have e24 : r.2.2 24 = M.2.2 24 := f.2 24 (by omega) (by omega) (by omega) (by omega) (by omega)
  have e25 : r.2.2 25 = M.2.2 25 := f.2 25 (by omega) (by omega) (by omega) (by omega) (by omega)
  refine ⟨v, ?_, ?_, ?_, a, fun y => ?_⟩
  · unfold EC at h2 ⊢
    rw [i 3 (by omega) (by omega), i 4 (by omega) (by omega), i 39 (by omega) (by omega), i 40 (by omega) (by omega)]
    exact ⟨RMo_of e2 h2.1, RMo_of e2 h2.2.1, h2.2.2⟩
  · unfold FM at h3 ⊢
    rw [i 2 (by omega) (by omega), e1]; exact h3
  · unfold SMo at h4 ⊢
    rw [i 48 (by omega) (by omega), e20]; exact h4
  · rw [i 54 (by omega) (by omega), i 55 (by omega) (by omega), e23, e24, e25]; exact h6 y
theorem MI.fr {x0 : Ob} {tp : Nat → Int32} {M r : MS} (h : MI IB T k x0 tp M) (f : FRm M r) : MI IB T k x0 tp r := by
  obtain ⟨h1, h2, h3, h4, h5, h6⟩ := h
  refine ⟨⟨h1.1, by rw [f.1 8 (by omega) (by omega)]; exact h1.2.1, h1.2.2⟩, h2.of (f.2 3 (by omega) (by omega) (by omega) (by omega) (by omega)), by rw [f.1 10 (by omega) (by omega)]; exact h3, fun i hi => by rw [f.2 4 (by omega) (by omega) (by omega) (by omega) (by omega)]; exact h4 i hi, h5, by rw [f.1 53 (by omega) (by omega)]; exact h6⟩
theorem GD_a {K : LZ → LZ → Nat → Nat → Nat → (Nat → Int32) → Prop} (h : IV V E F S A IB I T k z) {x' : Nat → Ob} {cs' : CS} {f1' f2' : FS} {M' : MS} {o' : Nat → Int64} {N : Nat} (pw : WFV V' ∧ ve V' ≤ 9999 ∧ vn V' = vn V) (pa : AOK A' (vn V)) (hx : ∀ j, j = 0 ∨ j = 7 ∨ j = 16 ∨ j = 21 ∨ j = 22 ∨ j = 24 → x' j = z.1.1 j) (hw : WC E V' N cs' (x' 10) (x' 11) f1') (ha : ACc f2' (x' 14) A') (hf : FRm ((upd z.2.1.1 0 (nI 0), z.2.1.2) : MS) M') (v : VM M' 0 V') (am : AMr (M'.1 36) (M'.2.2 11) A') (hN : nf1 z ≤ N) (hB : nf2 z ≤ f2'.1) (hk : K z ((((x', z.1.2.1, cs', f1', f2', z.1.2.2.2.2.2) : XS), M', o') : LZ) N f2'.1 (nf3 z) ar) : GD K z ar := by
  obtain ⟨h1, h2, h3, h4, h5⟩ := h
  refine ⟨_, N, f2'.1, nf3 z, hk, ⟨V', E, F, S, A', IB, I, T, k, ?_, ⟨N, hw⟩, ?_, h4.u0.fr hf v am, ?_⟩, ⟨hN, hw.n.1⟩, ⟨hB, rfl⟩, ⟨Nat.le_refl _, rfl⟩⟩
  · obtain ⟨p1, p2, p3, p4, p5⟩ := h1
    refine ⟨⟨pw.1, pw.2.1, p1.2.2⟩, ?_, ?_, ?_, fun e => ?_⟩
    · rw [pw.2.2]; exact p2
    · rw [pw.2.2]; exact p3
    · rw [pw.2.2]; exact pa
    · rw [pw.2.2]; exact p5 e
  · show KX F S A' IB I x' f2' z.1.2.2.2.2.2
    unfold KX at h3 ⊢
    rw [hx 7 (by omega), hx 16 (by omega), hx 21 (by omega), hx 22 (by omega), hx 24 (by omega)]
    exact ⟨h3.1, h3.2.1, ha, h3.2.2.2⟩
  · show MI IB T k (x' 0) z.1.2.1 M'
    rw [hx 0 (by omega)]
    exact h5.u0.fr hf
theorem GD_r {K : LZ → LZ → Nat → Nat → Nat → (Nat → Int32) → Prop} (h : IV V E F S A IB I T k z) {x' : Nat → Ob} {o' : Nat → Int64} {w : Nat} (hw : w < 3) (h0 : x' 0 = ((z.1.1 0).1, uA (z.1.1 0).2 1 w ((z.1.1 0).2 1 w + nI 1))) (hx : ∀ j, j = 7 ∨ j = 10 ∨ j = 11 ∨ j = 14 ∨ j = 16 ∨ j = 21 ∨ j = 22 ∨ j = 24 → x' j = z.1.1 j) (hk : K z ((((x', z.1.2.1, z.1.2.2.1, z.1.2.2.2.1, z.1.2.2.2.2.1, z.1.2.2.2.2.2) : XS), ((upd z.2.1.1 0 (nI 0), z.2.1.2.1, uA z.2.1.2.2 4 w (z.2.1.2.2 4 w + nI 1)) : MS), o') : LZ) (nf1 z) (nf2 z) (nf3 z) ar) : GD K z ar := by
  obtain ⟨h1, ⟨N, h2⟩, h3, h4, h5⟩ := h
  refine ⟨_, nf1 z, nf2 z, nf3 z, hk, ⟨V, E, F, S, A, IB, I, T, k, h1, ⟨N, ?_⟩, ?_, ?_, ?_⟩, ⟨Nat.le_refl _, rfl⟩, ⟨Nat.le_refl _, rfl⟩, ⟨Nat.le_refl _, rfl⟩⟩
  · show WC E V N z.1.2.2.1 (x' 10) (x' 11) z.1.2.2.2.1
    rw [hx 10 (by omega), hx 11 (by omega)]; exact h2
  · show KX F S A IB I x' z.1.2.2.2.2.1 z.1.2.2.2.2.2
    unfold KX at h3 ⊢
    rw [hx 7 (by omega), hx 14 (by omega), hx 16 (by omega), hx 21 (by omega), hx 22 (by omega), hx 24 (by omega)]
    exact h3
  · have f : FRm ((upd z.2.1.1 0 (nI 0), z.2.1.2.1, sA z.2.1.2.2 4 (uA z.2.1.2.2 4 w (z.2.1.2.2 4 w + nI 1) 4)) : MS) ((upd z.2.1.1 0 (nI 0), z.2.1.2.1, uA z.2.1.2.2 4 w (z.2.1.2.2 4 w + nI 1)) : MS) := by
      refine ⟨fun _ _ _ => rfl, fun j _ _ _ _ _ => ?_⟩
      show uA z.2.1.2.2 4 w (z.2.1.2.2 4 w + nI 1) j = _
      rw [uA_s]; rfl
    obtain ⟨g1, g2, g3, g4, g5, g6⟩ := h4.u0 (x := nI 0)
    have n : ∀ j, j ≠ 4 → uA z.2.1.2.2 4 w (z.2.1.2.2 4 w + nI 1) j = z.2.1.2.2 j := fun j hj => uA_n hj
    refine ⟨⟨g1.1, RW_of (n 10 (by omega)).symm g1.2⟩, ?_, ?_, ?_, ?_, fun y => ?_⟩
    · exact ⟨RMo_of (n 2 (by omega)) g2.1, RMo_of (n 2 (by omega)) g2.2.1, g2.2.2⟩
    · exact ⟨g3.1, fun q hq => by
        show uA z.2.1.2.2 4 w (z.2.1.2.2 4 w + nI 1) 1 (2 * q) = _ ∧ uA z.2.1.2.2 4 w (z.2.1.2.2 4 w + nI 1) 1 (2 * q + 1) = _
        rw [n 1 (by omega)]; exact g3.2 q hq⟩
    · exact ⟨g4.1, fun q hq => by
        show uA z.2.1.2.2 4 w (z.2.1.2.2 4 w + nI 1) 20 (3 * q) = _ ∧ uA z.2.1.2.2 4 w (z.2.1.2.2 4 w + nI 1) 20 (3 * q + 1) = _ ∧ uA z.2.1.2.2 4 w (z.2.1.2.2 4 w + nI 1) 20 (3 * q + 2) = _
        rw [n 20 (by omega)]; exact g4.2 q hq⟩
    · show AMr (upd z.2.1.1 0 (nI 0) 36) (uA z.2.1.2.2 4 w (z.2.1.2.2 4 w + nI 1) 11) A
      rw [n 11 (by omega)]; exact g5
    · show RW (uA z.2.1.2.2 4 w (z.2.1.2.2 4 w + nI 1) 23) 0 I.1 ∧ AMr (upd z.2.1.1 0 (nI 0) 54) (uA z.2.1.2.2 4 w (z.2.1.2.2 4 w + nI 1) 24) I.2.1 ∧ SMa (upd z.2.1.1 0 (nI 0) 55) (uA z.2.1.2.2 4 w (z.2.1.2.2 4 w + nI 1) 25) I.2.2
      rw [n 23 (by omega), n 24 (by omega), n 25 (by omega)]; exact g6 y
  · show MI IB T k (x' 0) z.1.2.1 _
    obtain ⟨g1, g2, g3, g4, g5, g6⟩ := h5.u0 (x := nI 0)
    have n : ∀ j, j ≠ 4 → uA z.2.1.2.2 4 w (z.2.1.2.2 4 w + nI 1) j = z.2.1.2.2 j := fun j hj => uA_n hj
    rw [h0]
    refine ⟨g1, g2.of (n 3 (by omega)), g3, fun i hi => ?_, g5, g6⟩
    show uA (z.1.1 0).2 1 w ((z.1.1 0).2 1 w + nI 1) 1 i = uA z.2.1.2.2 4 w (z.2.1.2.2 4 w + nI 1) 4 i
    by_cases c : i = w
    · rw [c, uA_ss, uA_ss]
      exact congrArg (· + nI 1) (g4 w hw)
    · rw [uA_sn c, uA_sn c]; exact g4 i hi
theorem WC_new {N : Nat} {cs : CS} {p k p' k' q : Ob} {fs : FS} (h : WC E V N cs p k fs) (c : VC q V') (h1 : RCo p' E'.1) (h2 : RCo k' E'.2) : WC E' V' N ((upd cs.1 6 (nI 0), cs.2) : CS) p' k' ((fs.1, fs.2.1, sV fs.2.2 0 q) : FS) := by
  obtain ⟨⟨rd, c1, c2, c3, c4, c5⟩, _⟩ := h
  refine ⟨⟨0, ⟨c1.1, c1.2.1, c1.2.2.1, by omega⟩, c2, ?_, fun i hi => ?_, fun i i1 i2 => absurd i1 (by omega)⟩, h1, h2⟩
  · show upd cs.1 6 (nI 0) 6 = _
    exact pk_us
  · have e : i = 0 := by omega
    subst e
    show VC (sV fs.2.2 0 q 0) V'
    rw [sV_s]; exact c
theorem c_ref {x : Ob} {w : Nat} (hw : w < 3) : f_X11_refuse x (nI w) = some (mO, (x.1, uA x.2 1 w (x.2 1 w + nI 1))) := by
  unfold f_X11_refuse
  rw [sx_grd hw (by omega), sx_grd hw (by omega), sx_clamp (by omega), bnd_nr]; rfl
theorem m_ref {M : MS} {w : Nat} (hw : w < 3) : f_X12_refuses M (nI w) = some (mO, (M.1, M.2.1, uA M.2.2 4 w (M.2.2 4 w + nI 1))) := by
  unfold f_X12_refuses
  rw [sx_grd hw (by omega), sx_grd hw (by omega), sx_clamp (by omega), bnd_nr]; rfl
theorem c_chg {cs : CS} {a b c d : Ob} {f : FS} : f_X1_changed cs a b c d f = some ((upd cs.1 6 (nI 0), cs.2) : CS) := rfl
theorem VC.rkv {v : Ob} (c : VC v V) {p r : Nat} (hp : p < vn V) : VC (v.1, uA v.2 1 p (nI r)) (rkV V p r) := by
  have n : ∀ j y, j ≠ 1 → uA v.2 1 p (nI r) j y = v.2 j y := fun j y hj => congrFun (uA_n hj) y
  refine ⟨c.1, fun q hq => ?_, fun h hh => ?_⟩
  · have hq : q < vn V := hq
    obtain ⟨a, b, d, e, f⟩ := c.2.1 q hq
    refine ⟨?_, (n 2 q (by omega)).trans b, (n 3 q (by omega)).trans d, (n 4 q (by omega)).trans e, (n 5 q (by omega)).trans f⟩
    show uA v.2 1 p (nI r) 1 q = nI (if q = p then r else rk V q)
    by_cases x : q = p
    · rw [if_pos x, x, uA_ss]
    · rw [if_neg x, uA_sn x]; exact a
  · obtain ⟨a, b⟩ := c.2.2 h hh
    exact ⟨(n 6 h (by omega)).trans a, (n 7 h (by omega)).trans b⟩
theorem VM.rk0 {M : MS} {U : VT} (v : VM M 0 U) {p r : Nat} (hp : p < vn U) (h12 : vn U ≤ 12) (hh : vh U ≤ 12) : VM (M.1, M.2.1, uA M.2.2 10 (50 + p) (nI r)) 0 (rkV U p r) := by
  have f : ∀ j, j ≠ 50 + p → uA M.2.2 10 (50 + p) (nI r) 10 j = M.2.2 10 j := fun j hj => uA_sn hj
  obtain ⟨v0, ⟨v1, v2⟩, v3, v4⟩ := v
  refine ⟨v0, ⟨(f _ (by omega)).trans v1, (f _ (by omega)).trans v2⟩, fun q hq => ?_, fun h hh9 => ?_⟩
  · have hq : q < vn U := hq
    obtain ⟨a, b, c, d, e⟩ := v3 q hq
    refine ⟨(f _ (by omega)).trans a, (f _ (by omega)).trans b, (f _ (by omega)).trans c, (f _ (by omega)).trans d, ?_⟩
    show uA M.2.2 10 (50 + p) (nI r) 10 (0 + 50 + q) = nI (if q = p then r else rk U q)
    by_cases x : q = p
    · rw [if_pos x, x, show 0 + 50 + p = 50 + p by omega, uA_ss]
    · rw [if_neg x, uA_sn (by omega)]; exact e
  · have hh9 : h < vh U := hh9
    obtain ⟨a, b⟩ := v4 h hh9
    exact ⟨(f _ (by omega)).trans a, (f _ (by omega)).trans b⟩
theorem sV_a {x : Nat → Ob} {t : Ob} (j : Nat) (h : j ≠ 14) : sV (sV x 0 (x 0)) 14 t j = x j := by
  rw [sV_n h]
  by_cases e : j = 0
  · rw [e, sV_s]
  · rw [sV_n e]
theorem sV_b {x : Nat → Ob} {y : Ob} (j : Nat) (h : j ≠ 0) : sV (sV x 0 y) 14 (x 14) j = x j := by
  by_cases e : j = 14
  · rw [e, sV_s]
  · rw [sV_n e, sV_n h]
end FRS
