def ps (c : Nat → Nat) (at0 : Nat) : Nat → Nat | 0 => at0 | i + 1 => ps c at0 i + (if c i < 20000 then 2 else 1)
def mop (c : Nat) : Nat := if c < 10000 then 1 else if c < 20000 then 2 else if c = 20033 then 3 else if c = 20038 then 4 else if c = 20124 then 5 else if c = 20060 then 6 else if c = 20061 then 7 else if c = 20043 then 8 else if c = 20045 then 9 else if c = 20042 then 10 else 11
def RM (code : Nat → Int32) (c : Nat → Nat) (len at0 : Nat) : Prop := ps c at0 len < 1400 ∧ code (ps c at0 len) = 0 ∧ ∀ i, i < len → code (ps c at0 i) = nI (mop (c i)) ∧ (c i < 20000 → code (ps c at0 i + 1) = nI (if c i < 10000 then c i else c i - 10000))
theorem ps_mono {c : Nat → Nat} {at0 : Nat} : ∀ {i j : Nat}, i ≤ j → ps c at0 i ≤ ps c at0 j := by
  intro i j h
  induction j with
  | zero => have e : i = 0 := by omega
            subst e; exact Nat.le_refl _
  | succ j ih =>
    rcases Nat.lt_or_ge i (j + 1) with q | q
    · have := ih (by omega)
      rw [ps]
      omega
    · have e : i = j + 1 := by omega
      subst e; exact Nat.le_refl _
theorem works_op {c : Nat} {x y : Int32} (h : isOp c = true) : f_X12_works (nI (mop c)) x y = some (binop c x y) := by
  unfold isOp at h
  simp only [Bool.or_eq_true, beq_iff_eq] at h
  rcases h with ((((((rfl | rfl) | rfl) | rfl) | rfl) | rfl) | rfl) | rfl
  · rfl
  · rfl
  · rfl
  · show (if y = 0 then some (0 : Int32) else grd (decide (¬ y = 0)) (some (x / y))) = some (if y = 0 then 0 else x / y)
    by_cases z : y = 0
    · rw [if_pos z, if_pos z]
    · rw [if_neg z, if_neg z, decide_eq_true z]; rfl
  · show (if y ≤ x then some (0 : Int32) else some 1) = some (if y ≤ x then 0 else 1)
    split <;> rfl
  · show (if x = y then some (1 : Int32) else some 0) = some (if x = y then 1 else 0)
    split <;> rfl
  · show (if x = 0 then some (0 : Int32) else if y = 0 then some 0 else some 1) = some (if x = 0 then 0 else if y = 0 then 0 else 1)
    split
    · rfl
    · split <;> rfl
  · show (if x = 0 then (if y = 0 then some (0 : Int32) else some 1) else some 1) = some (if x = 0 then (if y = 0 then 0 else 1) else 1)
    split
    · split <;> rfl
    · rfl
theorem mop_op {c : Nat} (h : isOp c = true) : 4 ≤ mop c ∧ mop c ≤ 11 := by
  unfold isOp at h
  simp only [Bool.or_eq_true, beq_iff_eq] at h
  rcases h with ((((((rfl | rfl) | rfl) | rfl) | rfl) | rfl) | rfl) | rfl <;> decide
theorem r_model {M : MS} {c : Nat → Nat} {len at0 : Nat} (hok : ∀ i, i < len → okc (hh c i) (c i) ∧ c i < 20125 ∧ (10000 ≤ c i → c i < 20000 → c i < 10009)) (hfin : hh c len = 1) (hl : len ≤ 700) (hM : RM (M.2.2 2) c len at0) : RT (f_X12_reckons M (nI at0)) (fun q => q.1 = ss c (M.2.2 12) len 0 ∧ q.2.1 = M.1 ∧ q.2.2.1 = M.2.1 ∧ ∀ j, j ≠ 13 → q.2.2.2 j = M.2.2 j) := by
  obtain ⟨hend, hstop, hcode⟩ := hM
  have hle := hh_le (fun i hi => (hok i hi).1)
  unfold f_X12_reckons
  refine RT.loop0_2 (fun n i (a : Int32) (z : MS) => f_X12_reckons_L4 n a (nI (ps c at0 i)) z) len (fun i a z => a = nI (hh c i) ∧ z.1 = M.1 ∧ z.2.1 = M.2.1 ∧ (∀ j, j ≠ 13 → z.2.2 j = M.2.2 j) ∧ ∀ j, j < hh c i → z.2.2 13 j = ss c (M.2.2 12) i j) _ (0 : Int32) M (by omega) ⟨rfl, rfl, rfl, fun _ _ => rfl, fun j hj => absurd hj (Nat.not_lt_zero _)⟩ ?_ ?_
  · intro n a z ⟨h1, h2, h3, h4, h5⟩
    show RT (f_X12_reckons_L4 (n + 1) a (nI (ps c at0 len)) z) _
    unfold f_X12_reckons_L4
    refine RT.grd (vi_n hend (by omega)) ?_
    rw [nI_clamp (by omega), h4 2 (by decide)]
    refine RT.itT hstop (RT.grd (by decide) (RT.ret ⟨?_, h2, h3, h4⟩))
    exact h5 0 (by rw [hfin]; omega)
  · intro n i a z hi ⟨h1, h2, h3, h4, h5⟩ hk
    show RT (f_X12_reckons_L4 (n + 1) a (nI (ps c at0 i)) z) _
    obtain ⟨o1, v1, v2⟩ := hok i hi
    obtain ⟨k1, k2⟩ := hcode i hi
    have hh9 := hle i (by omega)
    have hs1 : hh c (i + 1) = hs (hh c i) (c i) := rfl
    have hs2 : ss c (M.2.2 12) (i + 1) = rstep (M.2.2 12) (hh c i) (ss c (M.2.2 12) i) (c i) := rfl
    have hp1 : ps c at0 (i + 1) = ps c at0 i + (if c i < 20000 then 2 else 1) := rfl
    have hm1 := ps_mono (c := c) (at0 := at0) (show i + 1 ≤ len by omega)
    have hvi : vi (nI (ps c at0 i)) 1400 = true := vi_n (by omega) (by omega)
    have hcl : (nI (ps c at0 i)).toNatClampNeg = ps c at0 i := nI_clamp (by omega)
    unfold f_X12_reckons_L4
    refine RT.grd hvi ?_
    rw [hcl, h4 2 (by decide), k1]
    have hmo : 1 ≤ mop (c i) ∧ mop (c i) ≤ 11 := by
      unfold mop
      repeat' split
      all_goals omega
    refine RT.itF (nI_ne0 (by omega) (by omega)) (RT.grd hvi (RT.bnd (RT.bnd ?_)))
    rw [nI_1]
    unfold okc at o1
    by_cases q1 : c i < 20000
    · rw [if_pos q1] at o1 hp1
      have hs3 : hh c (i + 1) = hh c i + 1 := by rw [hs1]; unfold hs; rw [if_pos q1]
      have hcl2 : (nI (ps c at0 i + 1)).toNatClampNeg = ps c at0 i + 1 := nI_clamp (by omega)
      have hvi2 : vi (nI (ps c at0 i + 1)) 1400 = true := vi_n (by omega) (by omega)
      have hcl3 : (nI (hh c i)).toNatClampNeg = hh c i := nI_clamp (by omega)
      have hvi3 : vi (nI (hh c i)) 950 = true := vi_n (by omega) (by omega)
      have k3 := k2 q1
      have key : ∀ w : Int32, w = rstep (M.2.2 12) (hh c i) (ss c (M.2.2 12) i) (c i) (hh c i) → (∀ j, j < hh c i → rstep (M.2.2 12) (hh c i) (ss c (M.2.2 12) i) (c i) j = ss c (M.2.2 12) i j) → RT (f_X12_reckons_L4 n (nI (hh c i) + 1) (nI (ps c at0 i + 1) + 1) (z.1, z.2.1, uA z.2.2 13 (hh c i) w)) (fun q => q.1 = ss c (M.2.2 12) len 0 ∧ q.2.1 = M.1 ∧ q.2.2.1 = M.2.1 ∧ ∀ j, j ≠ 13 → q.2.2.2 j = M.2.2 j) := by
        intro w hw hrest
        rw [nI_1, nI_1, show ps c at0 i + 1 + 1 = ps c at0 (i + 1) from hp1.symm]
        refine hk _ _ ⟨by rw [hs3], h2, h3, fun j hj => by dsimp only; rw [uA_n hj]; exact h4 j hj, fun j hj => ?_⟩
        dsimp only
        rw [hs2]
        by_cases e : j = hh c i
        · subst e; rw [uA_ss]; exact hw
        · rw [uA_sn e, hrest j (by omega)]; exact h5 j (by omega)
      by_cases q2 : c i < 10000
      · rw [if_pos q2] at k3
        have e1 : mop (c i) = 1 := by unfold mop; rw [if_pos q2]
        rw [e1]
        refine RT.itT rfl ?_
        unfold f_X12_reckons_J36
        refine RT.itT rfl ?_
        rw [h1]
        refine RT.grd hvi2 (RT.grd hvi3 (RT.bnd (RT.bnd (RT.bnd ?_))))
        rw [hcl2, hcl3, h4 2 (by decide), k3]
        refine key _ ?_ ?_
        · unfold rstep; rw [if_pos q2, pk_us]
        · intro j hj; unfold rstep; rw [if_pos q2, pk_un (by omega)]
      · rw [if_neg q2] at k3
        have hv := v2 (by omega) q1
        have e1 : mop (c i) = 2 := by unfold mop; rw [if_neg q2, if_pos q1]
        rw [e1]
        refine RT.itF (by decide) (RT.itT rfl ?_)
        unfold f_X12_reckons_J36
        refine RT.itF (by decide) ?_
        rw [h1]
        refine RT.grd hvi2 ?_
        rw [hcl2, hcl3, h4 2 (by decide), k3]
        refine RT.grd (vi_n (by omega) (by omega)) (RT.grd hvi3 (RT.bnd (RT.bnd (RT.bnd ?_))))
        rw [nI_clamp (show c i - 10000 < 2 ^ 31 by omega), h4 12 (by decide)]
        refine key _ ?_ ?_
        · unfold rstep; rw [if_neg q2, if_pos q1, pk_us]
        · intro j hj; unfold rstep; rw [if_neg q2, if_pos q1, pk_un (by omega)]
    · rw [if_neg q1] at o1 hp1
      have q2 : ¬ c i < 10000 := by omega
      by_cases q3 : c i = 20033
      · rw [if_pos q3] at o1
        have hs3 : hh c (i + 1) = hh c i := by rw [hs1]; unfold hs; rw [if_neg q1, if_pos q3]
        have e1 : mop (c i) = 3 := by rw [q3]; rfl
        rw [e1]
        have e6 : nI (hh c i) - (1 : Int32) = nI (hh c i - 1) := pk_sub (a := hh c i) (b := 1) o1
        have hcl4 : (nI (hh c i - 1)).toNatClampNeg = hh c i - 1 := nI_clamp (by omega)
        have hvi4 : vi (nI (hh c i - 1)) 950 = true := vi_n (by omega) (by omega)
        have key : ∀ w : Int32, (w = if ss c (M.2.2 12) i (hh c i - 1) = 0 then 1 else 0) → RT (f_X12_reckons_L4 n (nI (hh c i)) (nI (ps c at0 i + 1)) (z.1, z.2.1, uA z.2.2 13 (hh c i - 1) w)) (fun q => q.1 = ss c (M.2.2 12) len 0 ∧ q.2.1 = M.1 ∧ q.2.2.1 = M.2.1 ∧ ∀ j, j ≠ 13 → q.2.2.2 j = M.2.2 j) := by
          intro w hw
          rw [show ps c at0 i + 1 = ps c at0 (i + 1) from hp1.symm]
          refine hk _ _ ⟨by rw [hs3], h2, h3, fun j hj => by dsimp only; rw [uA_n hj]; exact h4 j hj, fun j hj => ?_⟩
          dsimp only
          rw [hs2]
          unfold rstep
          rw [if_neg q2, if_neg q1, if_pos q3]
          by_cases e : j = hh c i - 1
          · subst e; rw [uA_ss, pk_us]; exact hw
          · rw [uA_sn e, pk_un e]; exact h5 j (by omega)
        refine RT.itF (by decide) (RT.itF (by decide) (RT.itT rfl ?_))
        rw [h1, e6]
        refine RT.grd hvi4 ?_
        rw [hcl4, h5 _ (by omega)]
        refine RT.ite (fun w => RT.grd hvi4 (RT.bnd ?_)) (fun w => RT.grd hvi4 (RT.bnd ?_))
        · exact key 1 (by rw [if_pos w])
        · exact key 0 (by rw [if_neg w])
      · rw [if_neg q3] at o1
        have hs3 : hh c (i + 1) = hh c i - 1 := by rw [hs1]; unfold hs; rw [if_neg q1, if_neg q3]
        have hm4 := mop_op o1.2
        have n1 : ∀ k : Nat, k < 4 → ¬ nI (mop (c i)) = nI k := fun k hk9 e9 => absurd ((nI_eq (by omega) (by omega)).mp e9) (by omega)
        refine RT.itF (n1 1 (by omega)) (RT.itF (n1 2 (by omega)) (RT.itF (n1 3 (by omega)) (RT.bnd ?_)))
        obtain ⟨hd, ed⟩ : ∃ hd, hh c i = hd + 2 := ⟨hh c i - 2, by omega⟩
        rw [h1, ed, pk_m1 (hd + 1), show nI (hd + 1) - (1 : Int32) = nI hd from nI_pred hd]
        have c1 : (nI hd).toNatClampNeg = hd := nI_clamp (by omega)
        have c2 : (nI (hd + 1)).toNatClampNeg = hd + 1 := nI_clamp (by omega)
        have gv : vi (nI hd) 950 = true := vi_n (by omega) (by omega)
        refine RT.grd gv (RT.grd (vi_n (by omega) (by omega)) ?_)
        rw [c1, c2, h5 hd (by omega), h5 (hd + 1) (by omega)]
        refine RT.bindE (works_op o1.2) (RT.grd gv (RT.bnd ?_))
        rw [show ps c at0 i + 1 = ps c at0 (i + 1) from hp1.symm]
        refine hk _ _ ⟨by rw [hs3, ed]; rfl, h2, h3, fun j hj => by dsimp only; rw [uA_n hj]; exact h4 j hj, fun j hj => ?_⟩
        dsimp only
        rw [hs2]
        unfold rstep
        rw [if_neg q2, if_neg q1, if_neg q3, ed, show hd + 2 - 2 = hd by omega, show hd + 2 - 1 = hd + 1 by omega]
        by_cases e : j = hd
        · subst e; rw [uA_ss, pk_us]
        · rw [uA_sn e, pk_un e]; exact h5 j (by omega)
/-- a rule's value is told by the values that it may ask -/
theorem ss_cong {c : Nat → Nat} {f g : Nat → Int32} {len lo hi : Nat} (hv : ∀ i, i < len → 10000 ≤ c i → c i < 20000 → lo + 10000 ≤ c i ∧ c i ≤ hi + 10000) (h : ∀ k, lo ≤ k → k ≤ hi → f k = g k) : ∀ i, i ≤ len → ss c f i = ss c g i
  | 0, _ => rfl
  | i + 1, hi9 => by
    have ih := ss_cong hv h i (by omega)
    have hc := hv i (by omega)
    rw [ss, ss, ih]
    unfold rstep
    by_cases q1 : c i < 10000
    · rw [if_pos q1, if_pos q1]
    · rw [if_neg q1, if_neg q1]
      by_cases q2 : c i < 20000
      · rw [if_pos q2, if_pos q2, h (c i - 10000) (by have := hc (by omega) q2; omega) (by have := hc (by omega) q2; omega)]
      · rw [if_neg q2, if_neg q2]
