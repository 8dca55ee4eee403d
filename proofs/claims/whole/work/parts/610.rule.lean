/-! rules: a list of steps (the class's own numbers), its heights, its stacks -/
def isOp (c : Nat) : Bool := c == 20043 || c == 20045 || c == 20042 || c == 20047 || c == 20060 || c == 20061 || c == 20038 || c == 20124
def hs (h c : Nat) : Nat := if c < 20000 then h + 1 else if c = 20033 then h else h - 1
def okc (h c : Nat) : Prop := if c < 20000 then h < 40 else if c = 20033 then 1 ≤ h else (2 ≤ h ∧ isOp c = true)
def hh (c : Nat → Nat) : Nat → Nat | 0 => 0 | i + 1 => hs (hh c i) (c i)
def binop (c : Nat) (x y : Int32) : Int32 := if c = 20043 then x + y else if c = 20045 then x - y else if c = 20042 then x * y else if c = 20047 then (if y = 0 then 0 else x / y) else if c = 20060 then (if y ≤ x then 0 else 1) else if c = 20061 then (if x = y then 1 else 0) else if c = 20038 then (if x = 0 then 0 else if y = 0 then 0 else 1) else (if x = 0 then (if y = 0 then 0 else 1) else 1)
def rstep (val : Nat → Int32) (h : Nat) (st : Nat → Int32) (c : Nat) : Nat → Int32 := if c < 10000 then upd st h (nI c) else if c < 20000 then upd st h (val (c - 10000)) else if c = 20033 then upd st (h - 1) (if st (h - 1) = 0 then 1 else 0) else upd st (h - 2) (binop c (st (h - 2)) (st (h - 1)))
def ss (c : Nat → Nat) (val : Nat → Int32) : Nat → Nat → Int32 | 0 => fun _ => 0 | i + 1 => rstep val (hh c i) (ss c val i) (c i)
def RC (R : Ob) (c : Nat → Nat) (len : Nat) : Prop := len ≤ 700 ∧ R.1 1 = nI len ∧ (∀ i, i < len → R.2 1 i = nI (c i) ∧ okc (hh c i) (c i) ∧ c i < 20125 ∧ (10000 ≤ c i → c i < 20000 → c i < 10009)) ∧ hh c len = 1
theorem hh_le {c : Nat → Nat} {len : Nat} (h : ∀ i, i < len → okc (hh c i) (c i)) : ∀ i, i ≤ len → hh c i ≤ 40
  | 0, _ => by simp [hh]
  | i + 1, hi => by
    have ih := hh_le h i (by omega)
    have o := h i (by omega)
    unfold okc at o
    rw [hh]
    unfold hs
    split
    · rename_i h1; rw [if_pos h1] at o; omega
    · split
      · exact ih
      · omega
theorem r_class {R : Ob} {c : Nat → Nat} {len : Nat} (hR : RC R c len) (val : Nat → Int32) : RT (f_X7_of R val 9) (fun q => q.1 = ss c val len 0 ∧ q.2.1 = R.1 ∧ q.2.2 1 = R.2 1) := by
  obtain ⟨hl, hlen, hst, hfin⟩ := hR
  have hle := hh_le (fun i hi => (hst i hi).2.1)
  unfold f_X7_of
  refine RT.loop0_2 (fun n i (a : Int32) (o : Ob) => f_X7_of_L4 9 val n a (nI i) o) len (fun i a o => a = nI (hh c i) ∧ o.1 = R.1 ∧ o.2 1 = R.2 1 ∧ ∀ j, j < hh c i → o.2 2 j = ss c val i j) _ (0 : Int32) R (by omega) ⟨rfl, rfl, rfl, fun j hj => absurd hj (Nat.not_lt_zero _)⟩ ?_ ?_
  · intro n a o ⟨h1, h2, h3, h4⟩
    show RT (f_X7_of_L4 9 val (n + 1) a (nI len) o) _
    unfold f_X7_of_L4
    refine RT.itT (by rw [h2, hlen]; exact nI_le (Nat.le_refl _) (by omega)) ?_
    rw [h1, hfin]
    refine RT.itF (by decide) (RT.grd (by decide) (RT.ret ⟨?_, h2, h3⟩))
    exact h4 0 (by rw [hfin]; omega)
  · intro n i a o hi ⟨h1, h2, h3, h4⟩ hk
    show RT (f_X7_of_L4 9 val (n + 1) a (nI i) o) _
    obtain ⟨e1, o1, v1, v2⟩ := hst i hi
    have hh9 := hle i (by omega)
    have hs1 : hh c (i + 1) = hs (hh c i) (c i) := rfl
    have hs2 : ss c val (i + 1) = rstep val (hh c i) (ss c val i) (c i) := rfl
    unfold f_X7_of_L4
    refine RT.itF (by rw [h2, hlen]; exact nI_ge hi (by omega)) (RT.grd (vi_n (by omega) (by omega)) (RT.bnd ?_))
    rw [nI_clamp (by omega), h3, e1]
    unfold okc at o1
    by_cases q1 : c i < 20000
    · rw [if_pos q1] at o1
      refine RT.itF (show ¬ nI 20000 ≤ nI (c i) from nI_ge q1 (by omega)) ?_
      rw [h1]
      refine RT.itF (show ¬ nI 40 ≤ nI (hh c i) from nI_ge o1 (by omega)) ?_
      have hs3 : hh c (i + 1) = hh c i + 1 := by rw [hs1]; unfold hs; rw [if_pos q1]
      by_cases q2 : c i < 10000
      · refine RT.itF (show ¬ nI 10000 ≤ nI (c i) from nI_ge q2 (by omega)) (RT.grd (vi_n o1 (by omega)) (RT.bnd (RT.bnd (RT.bnd ?_))))
        rw [nI_1, nI_1, nI_clamp (by omega)]
        refine hk _ _ ⟨by rw [hs3], h2, by dsimp only; rw [uA_n (by decide)]; exact h3, fun j hj => ?_⟩
        dsimp only
        rw [hs2]
        unfold rstep
        rw [if_pos q2]
        by_cases e : j = hh c i
        · subst e; rw [uA_ss, pk_us]
        · rw [uA_sn e, pk_un e]; exact h4 j (by omega)
      · have hv := v2 (by omega) q1
        refine RT.itT (show nI 10000 ≤ nI (c i) from nI_le (by omega) (by omega)) ?_
        have e5 : nI (c i) - (10000 : Int32) = nI (c i - 10000) := pk_sub (a := c i) (b := 10000) (by omega)
        rw [e5]
        refine RT.grd (vi_n (by omega) (by omega)) (RT.grd (vi_n o1 (by omega)) (RT.bnd (RT.bnd (RT.bnd ?_))))
        rw [nI_1, nI_1, nI_clamp (show hh c i < 2 ^ 31 by omega), nI_clamp (show c i - 10000 < 2 ^ 31 by omega)]
        refine hk _ _ ⟨by rw [hs3], h2, by dsimp only; rw [uA_n (by decide)]; exact h3, fun j hj => ?_⟩
        dsimp only
        rw [hs2]
        unfold rstep
        rw [if_neg q2, if_pos q1]
        by_cases e : j = hh c i
        · subst e; rw [uA_ss, pk_us]
        · rw [uA_sn e, pk_un e]; exact h4 j (by omega)
    · rw [if_neg q1] at o1
      refine RT.itT (show nI 20000 ≤ nI (c i) from nI_le (by omega) (by omega)) ?_
      unfold f_X7_of_J67
      rw [h1]
      have q2 : ¬ c i < 10000 := by omega
      by_cases q3 : c i = 20033
      · rw [if_pos q3] at o1
        have hs3 : hh c (i + 1) = hh c i := by rw [hs1]; unfold hs; rw [if_neg q1, if_pos q3]
        have e6 : nI (hh c i) - (1 : Int32) = nI (hh c i - 1) := pk_sub (a := hh c i) (b := 1) o1
        have hcl : (nI (hh c i - 1)).toNatClampNeg = hh c i - 1 := nI_clamp (by omega)
        refine RT.itT (by rw [q3]; rfl) (RT.itF (nI_nle (by omega) (by omega)) ?_)
        rw [e6]
        refine RT.grd (vi_n (by omega) (by omega)) ?_
        rw [hcl, h4 _ (by omega)]
        have hfin9 : ∀ (w : Int32), (w = if ss c val i (hh c i - 1) = 0 then 1 else 0) → RT (f_X7_of_L4 9 val n (nI (hh c i)) (nI i + 1) (o.1, uA o.2 2 (hh c i - 1) w)) (fun q => q.1 = ss c val len 0 ∧ q.2.1 = R.1 ∧ q.2.2 1 = R.2 1) := by
          intro w hw
          rw [nI_1]
          refine hk _ _ ⟨by rw [hs3], h2, by dsimp only; rw [uA_n (by decide)]; exact h3, fun j hj => ?_⟩
          dsimp only
          rw [hs2]
          unfold rstep
          rw [if_neg q2, if_neg q1, if_pos q3]
          by_cases e : j = hh c i - 1
          · subst e; rw [uA_ss, pk_us]; exact hw
          · rw [uA_sn e, pk_un e]; exact h4 j (by omega)
        refine RT.ite (fun z => RT.grd (vi_n (by omega) (by omega)) (RT.bnd (RT.bnd ?_))) (fun z => RT.grd (vi_n (by omega) (by omega)) (RT.bnd (RT.bnd ?_)))
        · exact hfin9 1 (by rw [if_pos z])
        · exact hfin9 0 (by rw [if_neg z])
      · rw [if_neg q3] at o1
        have hs3 : hh c (i + 1) = hh c i - 1 := by rw [hs1]; unfold hs; rw [if_neg q1, if_neg q3]
        refine RT.itF (fun z => q3 ((nI_eq (by omega) (by omega)).mp (show nI (c i) = nI 20033 from z))) ?_
        unfold f_X7_of_J106
        refine RT.itF (show ¬ nI (hh c i) ≤ nI 1 from nI_ge (by omega) (by omega)) (RT.bnd ?_)
        obtain ⟨hd, ed⟩ : ∃ hd, hh c i = hd + 2 := ⟨hh c i - 2, by omega⟩
        rw [ed, pk_m1 (hd + 1), show nI (hd + 1) - (1 : Int32) = nI hd from nI_pred hd]
        have c1 : (nI hd).toNatClampNeg = hd := nI_clamp (by omega)
        have c2 : (nI (hd + 1)).toNatClampNeg = hd + 1 := nI_clamp (by omega)
        refine RT.grd (vi_n (by omega) (by omega)) (RT.bnd (RT.grd (vi_n (by omega) (by omega)) (RT.bnd (RT.bnd ?_))))
        rw [c1, c2, h4 hd (by omega), h4 (hd + 1) (by omega)]
        have key : ∀ (w : Int32), w = binop (c i) (ss c val i hd) (ss c val i (hd + 1)) → RT (f_X7_of_L4 9 val n (nI (hd + 1)) (nI i + 1) (o.1, uA o.2 2 hd w)) (fun q => q.1 = ss c val len 0 ∧ q.2.1 = R.1 ∧ q.2.2 1 = R.2 1) := by
          intro w hw
          rw [nI_1]
          refine hk _ _ ⟨by rw [hs3, ed]; rfl, h2, by dsimp only; rw [uA_n (by decide)]; exact h3, fun j hj => ?_⟩
          dsimp only
          rw [hs2]
          unfold rstep
          rw [if_neg q2, if_neg q1, if_neg q3, ed, show hd + 2 - 2 = hd by omega, show hd + 2 - 1 = hd + 1 by omega]
          by_cases e : j = hd
          · subst e; rw [uA_ss, pk_us]; exact hw
          · rw [uA_sn e, pk_un e]; exact h4 j (by omega)
        have gv : vi (nI hd) 40 = true := vi_n (by omega) (by omega)
        have ho := o1.2
        unfold isOp at ho
        simp only [Bool.or_eq_true, beq_iff_eq] at ho
        rcases ho with ((((((ho | ho) | ho) | ho) | ho) | ho) | ho) | ho <;> rw [ho] at key ⊢ <;> simp only [show nI 20043 - (20000 : Int32) = 43 from by decide, show nI 20045 - (20000 : Int32) = 45 from by decide, show nI 20042 - (20000 : Int32) = 42 from by decide, show nI 20047 - (20000 : Int32) = 47 from by decide, show nI 20060 - (20000 : Int32) = 60 from by decide, show nI 20061 - (20000 : Int32) = 61 from by decide, show nI 20038 - (20000 : Int32) = 38 from by decide, show nI 20124 - (20000 : Int32) = 124 from by decide]
        · exact RT.grd gv (RT.bnd (RT.bnd (key _ rfl)))
        · exact RT.grd gv (RT.bnd (RT.bnd (key _ rfl)))
        · exact RT.grd gv (RT.bnd (RT.bnd (key _ rfl)))
        · iterate 9 refine RT.itF (by decide) ?_
          refine RT.itT (by decide) ?_
          refine RT.ite (fun z => RT.grd gv (RT.bnd (RT.bnd (key _ ?_)))) (fun z => RT.grd (decide_eq_true z) (RT.bnd (RT.grd gv (RT.bnd (RT.bnd (key _ ?_))))))
          · show 0 = binop 20047 _ _; unfold binop; simp [z]
          · show _ = binop 20047 _ _; unfold binop; simp [z]
        · iterate 22 refine RT.itF (by decide) ?_
          refine RT.itT (by decide) ?_
          refine RT.ite (fun z => RT.grd gv (RT.bnd (RT.bnd (key _ ?_)))) (fun z => RT.grd gv (RT.bnd (RT.bnd (key _ ?_))))
          · show _ = binop 20060 _ _; unfold binop; simp [z]
          · show _ = binop 20060 _ _; unfold binop; simp [z]
        · iterate 23 refine RT.itF (by decide) ?_
          refine RT.itT (by decide) ?_
          refine RT.ite (fun z => RT.grd gv (RT.bnd (RT.bnd (key _ ?_)))) (fun z => RT.grd gv (RT.bnd (RT.bnd (key _ ?_))))
          · show _ = binop 20061 _ _; unfold binop; simp [z]
          · show _ = binop 20061 _ _; unfold binop; simp [z]
        · refine RT.itT (by decide) ?_
          refine RT.ite (fun z => RT.grd gv (RT.bnd (RT.bnd (key _ ?_)))) (fun z => RT.ite (fun z2 => RT.grd gv (RT.bnd (RT.bnd (key _ ?_)))) (fun z2 => RT.grd gv (RT.bnd (RT.bnd (key _ ?_)))))
          · show _ = binop 20038 _ _; unfold binop; simp [z]
          · show _ = binop 20038 _ _; unfold binop; simp [z2]
          · show _ = binop 20038 _ _; unfold binop; simp [z, z2]
        · iterate 24 refine RT.itF (by decide) ?_
          unfold f_X7_of_J351
          rw [show nI (hd + 1) - (1 : Int32) = nI hd from nI_pred hd, c1]
          refine RT.ite (fun z => RT.ite (fun z2 => RT.grd gv (RT.bnd (RT.bnd (key _ ?_)))) (fun z2 => RT.grd gv (RT.bnd (RT.bnd (key _ ?_))))) (fun z => RT.grd gv (RT.bnd (RT.bnd (key _ ?_))))
          · show _ = binop 20124 _ _; unfold binop; simp [z, z2]
          · show _ = binop 20124 _ _; unfold binop; simp [z, z2]
          · show _ = binop 20124 _ _; unfold binop; simp [z]
