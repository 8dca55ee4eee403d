/-! a text, read by both to its end -/
section RDS
variable {X : TX} {ut : Nat → Int32} {M0 M : MS} {S : SD} {C : List Nat} {v vv vf vp vk : Ob} {j : Nat} {D : DV}
def rho (D : DV) (i p : Nat) : Int32 := if dvx D p then (if p < i then nI (dvh D + dRest D p) else mO) else nI (dvo D p)
theorem rest_le (w : DW D (dvh D)) : dvh D + dRest D (dvn D) ≤ dvn D := (WFV_fin w).hn
theorem rest_lt (w : DW D (dvh D)) {i : Nat} (hi : i < dvn D) (hx : dvx D i = true) : dvh D + dRest D i + 1 ≤ dvn D := by
  have := rest_le w
  have : dRest D i < dRest D (dvn D) := ct_lt hi hx
  omega
theorem rest_mono {i : Nat} (hi : i ≤ dvn D) (w : DW D (dvh D)) : dvh D + dRest D i ≤ 12 := by
  have := rest_le w
  have := w.1
  have : dRest D i ≤ dRest D (dvn D) := fb_ct_mono _ hi
  omega
theorem rest_s1 {i : Nat} (hx : dvx D i = true) : dRest D (i + 1) = dRest D i + 1 := by unfold dRest; rw [fb_ct_succ, if_pos hx]
theorem rest_s0 {i : Nat} (hx : dvx D i = false) : dRest D (i + 1) = dRest D i := by unfold dRest; rw [fb_ct_succ, if_neg (by rw [hx]; decide)]; rfl
theorem sz_fin_k (w : DW D (dvh D)) {k : Nat} (h1 : dvh D ≤ k) (h2 : k < dvh D + dRest D (dvn D)) : sz (dFin D) k = 1 := by
  obtain ⟨a, a1, a2, a3⟩ := fb_ct_kth (p := dvx D) (n := dvn D) (k := k - dvh D) (by unfold dRest at h2; omega)
  have e : k = dvh D + dRest D a := by unfold dRest; omega
  rw [e, sz_fin_n w a1 a2]
theorem c_rest (c : DC vv D (dvh D)) (w : DW D (dvh D)) : RT (f_X6_houseTheRest v vv) (fun r => VC r (dFin D)) := by
  refine RT.cps (fun Q hQ => ?_)
  have n12 := w.1
  unfold f_X6_houseTheRest
  refine RT.loop0 (fun n i (z : Ob) => f_X6_houseTheRest_L2 v n (nI i) z) (dvn D) (fun i z => (z.1 0 = nI (dvn D) ∧ z.1 1 = nI (dvh D + dRest D i) ∧ z.1 2 = 0) ∧ (∀ p, p < dvn D → z.2 1 p = nI (dvr D p) ∧ z.2 2 p = rho D i p ∧ (dvx D p = false → z.2 3 p = nI (dvp D p)) ∧ (dvx D p = true → p < i → z.2 3 p = 0) ∧ z.2 4 p = 0 ∧ z.2 5 p = 0) ∧ ∀ k, k < dvh D + dRest D i → z.2 6 k = nI (if k < dvh D then szo D k else 1) ∧ z.2 7 k = 0) Q vv (by omega) ?_ ?_ ?_
  · refine ⟨⟨c.1.1, ?_, c.1.2.2⟩, fun p hp => ?_, fun k hk => ?_⟩
    · rw [c.1.2.1]; rfl
    · obtain ⟨a1, a2, a3, a4, a5⟩ := c.2.1 p hp
      refine ⟨a1, ?_, a3, fun _ h => absurd h (Nat.not_lt_zero _), a4, a5⟩
      rw [a2]; unfold rho
      cases dvx D p
      · rfl
      · rw [if_pos rfl, if_pos rfl, if_neg (Nat.not_lt_zero _)]
    · have hk : k < dvh D := hk
      rw [if_pos hk]; exact c.2.2 k hk
  · intro n z ⟨h1, h2, h3⟩
    show RT (f_X6_houseTheRest_L2 v (n + 1) (nI (dvn D)) z) Q
    unfold f_X6_houseTheRest_L2
    refine RT.itT (by rw [h1.1]; exact nI_le (Nat.le_refl _) (by omega)) (RT.done hQ ⟨⟨h1.1, h1.2.1, h1.2.2⟩, fun p hp => ?_, fun k hk => ?_⟩)
    · have hp : p < dvn D := hp
      obtain ⟨a1, a2, a3, a4, a5, a6⟩ := h2 p hp
      refine ⟨a1, ?_, ?_, a5, a6⟩
      · rw [a2]
        show rho D (dvn D) p = nI (if dvx D p then dvh D + dRest D p else dvo D p)
        unfold rho
        cases dvx D p
        · rfl
        · rw [if_pos rfl, if_pos rfl, if_pos hp]
      · show z.2 3 p = nI (if dvx D p then 0 else dvp D p)
        cases e : dvx D p
        · exact a3 e
        · exact a4 e hp
    · have hk : k < dvh D + dRest D (dvn D) := hk
      obtain ⟨a1, a2⟩ := h3 k hk
      refine ⟨?_, a2⟩
      rw [a1]
      by_cases e : k < dvh D
      · rw [if_pos e, sz_fin_o e]
      · rw [if_neg e, sz_fin_k w (by omega) hk]
  · intro n i z hi ⟨h1, h2, h3⟩ hk
    show RT (f_X6_houseTheRest_L2 v (n + 1) (nI i) z) Q
    obtain ⟨a1, a2, a3, a4, a5, a6⟩ := h2 i hi
    unfold f_X6_houseTheRest_L2
    refine RT.itF (by rw [h1.1]; exact nI_ge hi (by omega)) ?_
    rw [sx_grd (by omega) (by omega), sx_clamp (by omega), a2]
    cases ex : dvx D i
    · have r9 : rho D i i = nI (dvo D i) := by unfold rho; rw [ex]; rfl
      have d9 := (w.2.2.1 i hi ex).1
      have hn9 := w.hn
      rw [r9]
      refine RT.itF (fun e => (sx_eqm (a := dvo D i) (by omega)).mp e) ?_
      rw [bnd_nr, nI_1]
      refine hk z ⟨⟨h1.1, by rw [rest_s0 ex]; exact h1.2.1, h1.2.2⟩, fun p hp => ?_, fun k hk9 => h3 k (by rw [rest_s0 ex] at hk9; exact hk9)⟩
      obtain ⟨b1, b2, b3, b4, b5, b6⟩ := h2 p hp
      refine ⟨b1, ?_, b3, fun y1 y2 => b4 y1 ?_, b5, b6⟩
      · rw [b2]; unfold rho
        cases ey : dvx D p
        · rfl
        · rw [if_pos rfl, if_pos rfl]
          by_cases q : p < i
          · rw [if_pos q, if_pos (by omega)]
          · rw [if_neg q, if_neg (fun q2 => ?_)]
            have : p = i := by omega
            rw [this, ex] at ey; cases ey
      · by_cases q : p = i
        · rw [q, ex] at y1; cases y1
        · omega
    · have r9 : rho D i i = mO := by unfold rho; rw [ex, if_pos rfl, if_neg (Nat.lt_irrefl _)]
      have d9 := rest_lt w hi ex
      rw [r9]
      refine RT.itT rfl ?_
      rw [show f_X10_addHouse z = _ from c_addHouse (I := z.1) (A := z.2) (h := dvh D + dRest D i) h1.2.1 (by omega), ob_some]
      dsimp only
      rw [c_enter (p := i) (h := dvh D + dRest D i) (by omega) (by omega), ob_some, bnd_nr, nI_1]
      refine hk _ ⟨⟨?_, ?_, ?_⟩, fun p hp => ?_, fun k hk9 => ?_⟩
      · simp (disch := omega) only [pk_us, pk_un]; exact h1.1
      · simp (disch := omega) only [pk_us, pk_un]; rw [rest_s1 ex]; rfl
      · simp (disch := omega) only [pk_us, pk_un]; exact h1.2.2
      · obtain ⟨b1, b2, b3, b4, b5, b6⟩ := h2 p hp
        by_cases q : p = i
        · subst q
          refine ⟨?_, ?_, fun y => ?_, fun _ _ => ?_, ?_, ?_⟩
          · simp (disch := omega) only [uA_s, uA_n, pk_us, pk_un]; exact b1
          · simp (disch := omega) only [uA_s, uA_n, pk_us, pk_un]; unfold rho; rw [ex, if_pos rfl, if_pos (by omega)]
          · rw [ex] at y; cases y
          · simp (disch := omega) only [uA_s, uA_n, pk_us, pk_un] <;> rfl
          · simp (disch := omega) only [uA_s, uA_n, pk_us, pk_un]; exact h1.2.2
          · simp (disch := omega) only [uA_s, uA_n, pk_us, pk_un]; exact b6
        · refine ⟨?_, ?_, fun y => ?_, fun y1 y2 => ?_, ?_, ?_⟩
          · simp (disch := omega) only [uA_s, uA_n, pk_us, pk_un]; exact b1
          · simp (disch := omega) only [uA_s, uA_n, pk_us, pk_un]; rw [b2]; unfold rho
            cases ey : dvx D p
            · rfl
            · rw [if_pos rfl, if_pos rfl]
              by_cases q2 : p < i
              · rw [if_pos q2, if_pos (by omega)]
              · rw [if_neg q2, if_neg (by omega)]
          · simp (disch := omega) only [uA_s, uA_n, pk_us, pk_un]; exact b3 y
          · simp (disch := omega) only [uA_s, uA_n, pk_us, pk_un]; exact b4 y1 (by omega)
          · simp (disch := omega) only [uA_s, uA_n, pk_us, pk_un]; exact b5
          · simp (disch := omega) only [uA_s, uA_n, pk_us, pk_un]; exact b6
      · rw [rest_s1 ex] at hk9
        by_cases q : k = dvh D + dRest D i
        · subst q
          rw [if_neg (by omega)]
          refine ⟨?_, ?_⟩
          · simp (disch := omega) only [uA_s, uA_n, pk_us, pk_un]; rw [nI_add]
          · simp (disch := omega) only [uA_s, uA_n, pk_us, pk_un]; exact h1.2.2
        · refine ⟨?_, ?_⟩
          · simp (disch := omega) only [uA_s, uA_n, pk_us, pk_un]; exact (h3 k (by omega)).1
          · simp (disch := omega) only [uA_s, uA_n, pk_us, pk_un]; exact (h3 k (by omega)).2
theorem m_copies {a z : Nat → Int32} {n m : Nat} (h : n ≤ m) (hm : m < 100000) : RT (f_X12_copies a z n m) (fun r => ∀ i, i < n → r i = a i) := by
  refine RT.cps (fun Q hQ => ?_)
  unfold f_X12_copies
  refine RT.loop0 (fun k i (y : Nat → Int32) => f_X12_copies_L2 n m a k (nI i) y) n (fun i y => ∀ q, q < i → y q = a q) Q z (by omega) (fun q hq => absurd hq (Nat.not_lt_zero _)) ?_ ?_
  · intro k y hy
    show RT (f_X12_copies_L2 n m a (k + 1) (nI n) y) Q
    unfold f_X12_copies_L2
    exact RT.itT (show nI n ≤ nI n from nI_le (Nat.le_refl _) (by omega)) (RT.done hQ hy)
  · intro k i y hi hy hk
    show RT (f_X12_copies_L2 n m a (k + 1) (nI i) y) Q
    unfold f_X12_copies_L2
    refine RT.itF (show ¬ nI n ≤ nI i from nI_ge hi (by omega)) ?_
    rw [sx_grd hi (by omega), sx_grd (by omega) (by omega), sx_clamp (by omega), bnd_nr, bnd_nr, nI_1]
    refine hk _ (fun q hq => ?_)
    by_cases e : q = i
    · rw [e, pk_us]
    · rw [pk_un e]; exact hy q (by omega)
/-- the reference's row: all have houses -/
theorem m_rest {y : MS} (w : DW D (dvh D)) (h1 : y.1 1 = nI (dvn D)) (r0 : y.2.2 10 0 = 0) (r1 : y.2.2 10 1 = nI (dvh D)) (rp : ∀ p, p < dvn D → y.2.2 10 (50 + p) = nI (dvr D p) ∧ y.2.2 10 (2 + p) = (if dvx D p then mO else nI (dvo D p)) ∧ (dvx D p = false → y.2.2 10 (14 + p) = nI (dvp D p))) (rz : ∀ i, (26 ≤ i ∧ i < 50) ∨ (62 ≤ i ∧ i < 86) → y.2.2 10 i = 0) : RT (f_X12_village_L234 FUEL 0 y) (fun q => q.1 = 0 ∧ VM q.2 0 (dFin D) ∧ (q.2.1 36 = 0 ∧ q.2.1 48 = 0 ∧ q.2.1 53 = 0) ∧ (∀ k, k ≠ 36 → k ≠ 48 → k ≠ 53 → q.2.1 k = y.1 k) ∧ ∀ a, a ≠ 10 → q.2.2.2 a = y.2.2 a) := by
  refine RT.cps (fun Q hQ => ?_)
  have n12 := w.1
  refine RT.loop0 (fun n i (z : MS) => f_X12_village_L234 n (nI i) z) (dvn D) (fun i z => z.1 = y.1 ∧ (∀ a, a ≠ 10 → z.2.2 a = y.2.2 a) ∧ (z.2.2 10 0 = 0 ∧ z.2.2 10 1 = nI (dvh D + dRest D i)) ∧ (∀ p, p < dvn D → z.2.2 10 (50 + p) = nI (dvr D p) ∧ z.2.2 10 (2 + p) = rho D i p ∧ (dvx D p = false → z.2.2 10 (14 + p) = nI (dvp D p)) ∧ (dvx D p = true → p < i → z.2.2 10 (14 + p) = 0)) ∧ ∀ k, (26 ≤ k ∧ k < 50) ∨ (62 ≤ k ∧ k < 86) → z.2.2 10 k = 0) Q y (by omega) ?_ ?_ ?_
  · refine ⟨rfl, fun _ _ => rfl, ⟨r0, r1⟩, fun p hp => ?_, rz⟩
    obtain ⟨a1, a2, a3⟩ := rp p hp
    refine ⟨a1, ?_, a3, fun _ h => absurd h (Nat.not_lt_zero _)⟩
    rw [a2]; unfold rho
    cases dvx D p
    · rfl
    · rw [if_pos rfl, if_pos rfl, if_neg (Nat.not_lt_zero _)]
  · intro n z ⟨z1, z2, z3, z4, z5⟩
    show RT (f_X12_village_L234 (n + 1) (nI (dvn D)) z) Q
    unfold f_X12_village_L234
    refine RT.itT (by rw [z1, h1]; exact nI_le (Nat.le_refl _) (by omega)) ?_
    rw [bnd_nr, bnd_nr, bnd_nr]
    refine RT.done hQ ⟨rfl, ⟨?_, ⟨z3.1, z3.2⟩, fun p hp => ?_, fun k hk => ?_⟩, ⟨?_, ?_, ?_⟩, fun k k1 k2 k3 => ?_, z2⟩
    · show upd (upd (upd z.1 36 0) 48 0) 53 0 1 = _
      rw [pk_un (by omega), pk_un (by omega), pk_un (by omega), z1]; exact h1
    · have hp : p < dvn D := hp
      obtain ⟨a1, a2, a3, a4⟩ := z4 p hp
      refine ⟨?_, ?_, ?_, ?_, ?_⟩
      · rw [show 0 + 2 + p = 2 + p by omega]
        show z.2.2 10 (2 + p) = nI (if dvx D p then dvh D + dRest D p else dvo D p)
        rw [a2]; unfold rho
        cases dvx D p
        · rfl
        · rw [if_pos rfl, if_pos rfl, if_pos hp]
      · rw [show 0 + 14 + p = 14 + p by omega]
        show z.2.2 10 (14 + p) = nI (if dvx D p then 0 else dvp D p)
        cases e : dvx D p
        · exact a3 e
        · exact a4 e hp
      · exact z5 (0 + 26 + p) (by omega)
      · exact z5 (0 + 38 + p) (by omega)
      · rw [show 0 + 50 + p = 50 + p by omega]; exact a1
    · have hk : k < dvh D + dRest D (dvn D) := hk
      have := rest_mono (Nat.le_refl (dvn D)) w
      exact ⟨z5 (0 + 62 + k) (by omega), z5 (0 + 74 + k) (by omega)⟩
    · simp (disch := omega) only [pk_us, pk_un]
    · simp (disch := omega) only [pk_us, pk_un]
    · simp (disch := omega) only [pk_us, pk_un]
    · show upd (upd (upd z.1 36 0) 48 0) 53 0 k = _
      rw [pk_un k3, pk_un k2, pk_un k1, z1]
  · intro n i z hi ⟨z1, z2, z3, z4, z5⟩ hk
    show RT (f_X12_village_L234 (n + 1) (nI i) z) Q
    obtain ⟨a1, a2, a3, a4⟩ := z4 i hi
    unfold f_X12_village_L234
    refine RT.itF (by rw [z1, h1]; exact nI_ge hi (by omega)) ?_
    rw [show (2 : Int32) + nI i = nI (2 + i) from nI_add 2 i, sx_grd (by omega) (by omega), sx_clamp (by omega), a2]
    cases ex : dvx D i
    · have r9 : rho D i i = nI (dvo D i) := by unfold rho; rw [ex]; rfl
      have d9 := (w.2.2.1 i hi ex).1
      have hn9 := w.hn
      rw [r9]
      refine RT.itF (fun e => (sx_eqm (a := dvo D i) (by omega)).mp e) ?_
      rw [bnd_nr, nI_1]
      refine hk z ⟨z1, z2, ⟨z3.1, by rw [rest_s0 ex]; exact z3.2⟩, fun p hp => ?_, z5⟩
      obtain ⟨b1, b2, b3, b4⟩ := z4 p hp
      refine ⟨b1, ?_, b3, fun y1 y2 => b4 y1 ?_⟩
      · rw [b2]; unfold rho
        cases ey : dvx D p
        · rfl
        · rw [if_pos rfl, if_pos rfl]
          by_cases q : p < i
          · rw [if_pos q, if_pos (by omega)]
          · rw [if_neg q, if_neg (fun q2 => ?_)]
            have : p = i := by omega
            rw [this, ex] at ey; cases ey
      · by_cases q : p = i
        · rw [q, ex] at y1; cases y1
        · omega
    · have r9 : rho D i i = mO := by unfold rho; rw [ex, if_pos rfl, if_neg (Nat.lt_irrefl _)]
      have d9 := rest_lt w hi ex
      rw [r9]
      refine RT.itT rfl ?_
      rw [show (1 : Int32) = nI 1 from rfl, sx_grd (by omega) (by omega), sx_grd (by omega) (by omega), sx_clamp (by omega), bnd_nr, show (14 : Int32) + nI i = nI (14 + i) from nI_add 14 i, sx_grd (by omega) (by omega), sx_clamp (by omega), bnd_nr, sx_grd (by omega) (by omega), sx_grd (by omega) (by omega), bnd_nr, bnd_nr]
      dsimp only
      rw [nI_add]
      refine hk _ ⟨z1, fun a ha => ?_, ⟨?_, ?_⟩, fun p hp => ?_, fun k hk9 => ?_⟩
      · simp (disch := omega) only [uA_s, uA_n]; exact z2 a ha
      · simp (disch := omega) only [uA_s, uA_n, pk_us, pk_un]; exact z3.1
      · simp (disch := omega) only [uA_s, uA_n, pk_us, pk_un]; rw [z3.2, nI_add, rest_s1 ex]; rfl
      · obtain ⟨b1, b2, b3, b4⟩ := z4 p hp
        by_cases q : p = i
        · subst q
          refine ⟨?_, ?_, fun y => ?_, fun _ _ => ?_⟩
          · simp (disch := omega) only [uA_s, uA_n, pk_us, pk_un]; exact b1
          · simp (disch := omega) only [uA_s, uA_n, pk_us, pk_un]; rw [z3.2]; unfold rho; rw [ex, if_pos rfl, if_pos (by omega)]
          · rw [ex] at y; cases y
          · simp (disch := omega) only [uA_s, uA_n, pk_us, pk_un] <;> rfl
        · refine ⟨?_, ?_, fun y => ?_, fun y1 y2 => ?_⟩
          · simp (disch := omega) only [uA_s, uA_n, pk_us, pk_un]; exact b1
          · simp (disch := omega) only [uA_s, uA_n, pk_us, pk_un]; rw [b2]; unfold rho
            cases ey : dvx D p
            · rfl
            · rw [if_pos rfl, if_pos rfl]
              by_cases q2 : p < i
              · rw [if_pos q2, if_pos (by omega)]
              · rw [if_neg q2, if_neg (by omega)]
          · simp (disch := omega) only [uA_s, uA_n, pk_us, pk_un]; exact b3 y
          · simp (disch := omega) only [uA_s, uA_n, pk_us, pk_un]; exact b4 y1 (by omega)
      · simp (disch := omega) only [uA_s, uA_n, pk_us, pk_un]; exact z5 k hk9
end RDS
