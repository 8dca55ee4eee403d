/-! the reference's: kept, taken back, copied -/
theorem ix86 {x : Int32} {a i : Nat} (h : x = nI a) : (86 : Int32) * x + nI i = nI (86 * a + i) := by
  rw [h, show (86 : Int32) = nI 86 from rfl, pk_mul, nI_add]
theorem m_keepJ {y : MS} {a : Nat} (h36 : y.1 36 = nI a) (ha : a < 40) : RT (f_X12_keeps0_L52 FUEL (nI 0) y) (fun r => (∀ k, k ≠ 36 → r.1 k = y.1 k) ∧ (∀ j, j ≠ 11 → r.2.2 j = y.2.2 j) ∧ r.1 36 = nI (a + 1) ∧ (∀ j, j < 86 → r.2.2 11 (86 * a + j) = y.2.2 10 j) ∧ ∀ j, j < 86 * a → r.2.2 11 j = y.2.2 11 j) := by
  refine RT.cps (fun Q hQ => ?_)
  refine RT.loop0 (fun n i (z : MS) => f_X12_keeps0_L52 n (nI i) z) 86 (fun i z => z.1 = y.1 ∧ (∀ j, j ≠ 11 → z.2.2 j = y.2.2 j) ∧ (∀ j, j < i → z.2.2 11 (86 * a + j) = y.2.2 10 j) ∧ ∀ j, j < 86 * a → z.2.2 11 j = y.2.2 11 j) Q y (by omega) ⟨rfl, fun _ _ => rfl, fun j hj => absurd hj (Nat.not_lt_zero _), fun _ _ => rfl⟩ ?_ ?_
  · intro n z ⟨z1, z2, z3, z4⟩
    show RT (f_X12_keeps0_L52 (n + 1) (nI 86) z) Q
    unfold f_X12_keeps0_L52
    refine RT.itT (show (86 : Int32) ≤ nI 86 by decide) (RT.bnd (RT.done hQ ⟨fun k hk => ?_, z2, ?_, z3, z4⟩))
    · show upd z.1 36 _ k = _
      rw [pk_un hk, z1]
    · show upd z.1 36 (z.1 36 + 1) 36 = _
      rw [pk_us, z1, h36, nI_1]
  · intro n i z hi ⟨z1, z2, z3, z4⟩ hk
    show RT (f_X12_keeps0_L52 (n + 1) (nI i) z) Q
    unfold f_X12_keeps0_L52
    refine RT.itF (show ¬ (86 : Int32) ≤ nI i from nI_ge (b := 86) hi (by omega)) ?_
    rw [sx_grd (show i < 172 by omega) (by omega), ix86 (show z.1 36 = nI a by rw [z1, h36]), sx_grd (show 86 * a + i < 3440 by omega) (by omega), sx_clamp (show 86 * a + i < 2147483648 by omega), sx_clamp (show i < 2147483648 by omega), bnd_nr, bnd_nr, nI_1]
    refine hk _ ⟨z1, fun j hj => ?_, fun j hj => ?_, fun j hj => ?_⟩
    · show uA z.2.2 11 _ _ j = _
      rw [uA_n hj]; exact z2 j hj
    · show uA z.2.2 11 (86 * a + i) (z.2.2 10 i) 11 (86 * a + j) = _
      by_cases c : j = i
      · rw [c, uA_ss, z2 10 (by omega)]
      · rw [uA_sn (by omega)]; exact z3 j (by omega)
    · show uA z.2.2 11 (86 * a + i) (z.2.2 10 i) 11 j = _
      rw [uA_sn (by omega)]; exact z4 j hj
theorem m_shift {y : MS} (h36 : y.1 36 = nI 40) {Q : MS → Prop} (hQ : ∀ z : MS, z.1 = upd y.1 36 (nI 39) → (∀ j, j ≠ 11 → z.2.2 j = y.2.2 j) → (∀ j, j < 3354 → z.2.2 11 j = y.2.2 11 (j + 86)) → RT (f_X12_keeps0_L52 FUEL (nI 0) z) Q) : RT (f_X12_keeps0_L12 FUEL (nI 86) y) Q := by
  refine RT.loopI (fun n i (z : MS) => f_X12_keeps0_L12 n (nI i) z) 86 3440 (fun i z => z.1 = y.1 ∧ (∀ j, j ≠ 11 → z.2.2 j = y.2.2 j) ∧ (∀ j, j + 86 < i → z.2.2 11 j = y.2.2 11 (j + 86)) ∧ ∀ j, i ≤ j + 86 → z.2.2 11 j = y.2.2 11 j) Q y (by omega) (by omega) ⟨rfl, fun _ _ => rfl, fun j hj => absurd hj (by omega), fun _ _ => rfl⟩ ?_ ?_
  · intro n z ⟨z1, z2, z3, z4⟩
    show RT (f_X12_keeps0_L12 (n + 1) (nI 3440) z) Q
    unfold f_X12_keeps0_L12
    refine RT.itT (show (3440 : Int32) ≤ nI 3440 by decide) (RT.bnd (hQ _ ?_ z2 (fun j hj => z3 j (by omega))))
    show upd z.1 36 (z.1 36 - 1) = _
    rw [z1, h36]; rfl
  · intro n i z i1 hi ⟨z1, z2, z3, z4⟩ hk
    show RT (f_X12_keeps0_L12 (n + 1) (nI i) z) Q
    unfold f_X12_keeps0_L12
    refine RT.itF (show ¬ (3440 : Int32) ≤ nI i from nI_ge (b := 3440) hi (by omega)) ?_
    rw [sx_grd (show i < 3440 by omega) (by omega), show nI i - 86 = nI (i - 86) from pk_sub (b := 86) i1, sx_grd (show i - 86 < 3440 by omega) (by omega), sx_clamp (show i - 86 < 2147483648 by omega), sx_clamp (show i < 2147483648 by omega), bnd_nr, bnd_nr, nI_1]
    refine hk _ ⟨z1, fun j hj => ?_, fun j hj => ?_, fun j hj => ?_⟩
    · show uA z.2.2 11 _ _ j = _
      rw [uA_n hj]; exact z2 j hj
    · show uA z.2.2 11 (i - 86) (z.2.2 11 i) 11 j = _
      by_cases c : j = i - 86
      · rw [c, uA_ss, show i - 86 + 86 = i by omega]; exact z4 i (by omega)
      · rw [uA_sn c]; exact z3 j (by omega)
    · show uA z.2.2 11 (i - 86) (z.2.2 11 i) 11 j = _
      rw [uA_sn (by omega)]; exact z4 j (by omega)
theorem m_keep {M : MS} {A : AC} {V : VT} {n : Nat} (h : AMr (M.1 36) (M.2.2 11) A) (ok : AOK A n) (v : VM M 0 V) (w : WFV V) : RT (f_X12_keeps0 M) (fun r => (∀ k, k ≠ 36 → r.1 k = M.1 k) ∧ (∀ j, j ≠ 11 → r.2.2 j = M.2.2 j) ∧ AMr (r.1 36) (r.2.2 11) (kA A V)) := by
  have o1 := ok.1
  refine RT.cps (fun Q hQ => ?_)
  unfold f_X12_keeps0
  by_cases e : A.1 = 40
  · have h36 : M.1 36 = nI 40 := by rw [h.1, e]
    refine RT.itT (show M.1 36 = (40 : Int32) from h36) ?_
    refine m_shift h36 (fun z z1 z2 z3 => ?_)
    refine (m_keepJ (y := z) (a := 39) (by rw [z1, pk_us]) (by omega)).weak (fun r ⟨r1, r2, r3, r4, r5⟩ => hQ r ⟨fun k hk => by rw [r1 k hk, z1, pk_un hk], fun j hj => (r2 j hj).trans (z2 j hj), ?_⟩)
    unfold kA
    rw [if_pos e]
    refine ⟨r3, fun i hi => ?_⟩
    have hi : i < 40 := hi
    show RW (r.2.2 11) (86 * i) (if i = 39 then V else A.2 (i + 1))
    by_cases c : i = 39
    · rw [if_pos c, c]
      exact RW_cp w (fun j hj => by rw [r4 j hj, z2 10 (by omega), Nat.zero_add]) v.2
    · rw [if_neg c]
      refine RW_cp (ok.2 (i + 1) (by omega)).1 (fun j hj => ?_) (h.2 (i + 1) (by omega))
      rw [r5 _ (by omega), z3 _ (by omega), show 86 * i + j + 86 = 86 * (i + 1) + j by omega]
  · refine RT.itF (show ¬ M.1 36 = (40 : Int32) from fun x => e ((nI_eq (by omega) (by omega)).mp (h.1.symm.trans x))) ?_
    refine (m_keepJ (y := M) (a := A.1) h.1 (by omega)).weak (fun r ⟨r1, r2, r3, r4, r5⟩ => hQ r ⟨r1, r2, ?_⟩)
    unfold kA
    rw [if_neg e]
    refine ⟨r3, fun i hi => ?_⟩
    have hi : i < A.1 + 1 := hi
    show RW (r.2.2 11) (86 * i) (if i = A.1 then V else A.2 i)
    by_cases c : i = A.1
    · rw [if_pos c, c]
      exact RW_cp w (fun j hj => by rw [r4 j hj, Nat.zero_add]) v.2
    · rw [if_neg c]
      exact RW_cp (ok.2 i (by omega)).1 (fun j hj => r5 _ (by omega)) (h.2 i (by omega))
theorem m_undoL {y : MS} {a : Nat} (h36 : y.1 36 = nI a) (ha : a < 40) : RT (f_X12_undo_L26 FUEL (nI 0) y) (fun r => r.1 = nI a ∧ r.2.1 = y.1 ∧ (∀ j, j ≠ 10 → r.2.2.2 j = y.2.2 j) ∧ ∀ j, j < 86 → r.2.2.2 10 j = y.2.2 11 (86 * a + j)) := by
  refine RT.cps (fun Q hQ => ?_)
  refine RT.loop0 (fun n i (z : MS) => f_X12_undo_L26 n (nI i) z) 86 (fun i z => z.1 = y.1 ∧ (∀ j, j ≠ 10 → z.2.2 j = y.2.2 j) ∧ ∀ j, j < i → z.2.2 10 j = y.2.2 11 (86 * a + j)) Q y (by omega) ⟨rfl, fun _ _ => rfl, fun j hj => absurd hj (Nat.not_lt_zero _)⟩ ?_ ?_
  · intro n z ⟨z1, z2, z3⟩
    show RT (f_X12_undo_L26 (n + 1) (nI 86) z) Q
    unfold f_X12_undo_L26
    exact RT.itT (show (86 : Int32) ≤ nI 86 by decide) (RT.done hQ ⟨by show z.1 36 = _; rw [z1, h36], z1, z2, z3⟩)
  · intro n i z hi ⟨z1, z2, z3⟩ hk
    show RT (f_X12_undo_L26 (n + 1) (nI i) z) Q
    unfold f_X12_undo_L26
    refine RT.itF (show ¬ (86 : Int32) ≤ nI i from nI_ge (b := 86) hi (by omega)) ?_
    rw [ix86 (show z.1 36 = nI a by rw [z1, h36]), sx_grd (show 86 * a + i < 3440 by omega) (by omega), sx_grd (show i < 172 by omega) (by omega), sx_clamp (show 86 * a + i < 2147483648 by omega), sx_clamp (show i < 2147483648 by omega), bnd_nr, bnd_nr, nI_1]
    refine hk _ ⟨z1, fun j hj => ?_, fun j hj => ?_⟩
    · show uA z.2.2 10 _ _ j = _
      rw [uA_n hj]; exact z2 j hj
    · show uA z.2.2 10 i (z.2.2 11 (86 * a + i)) 10 j = _
      by_cases c : j = i
      · rw [c, uA_ss, z2 11 (by omega)]
      · rw [uA_sn c]; exact z3 j (by omega)
theorem m_imageL {y : MS} : RT (f_X12_image_L28 FUEL (nI 0) y) (fun r => r.1 = y.1 ∧ (∀ j, j ≠ 23 → j ≠ 24 → j ≠ 25 → r.2.2 j = y.2.2 j) ∧ (∀ j, j < 86 → r.2.2 23 j = y.2.2 10 j) ∧ (∀ j, j < 3440 → r.2.2 24 j = y.2.2 11 j) ∧ ∀ j, j < 24 → r.2.2 25 j = y.2.2 20 j) := by
  refine RT.cps (fun Q hQ => ?_)
  refine RT.loop0 (fun n i (z : MS) => f_X12_image_L28 n (nI i) z) 86 (fun i z => z.1 = y.1 ∧ (∀ j, j ≠ 23 → z.2.2 j = y.2.2 j) ∧ ∀ j, j < i → z.2.2 23 j = y.2.2 10 j) Q y (by omega) ⟨rfl, fun _ _ => rfl, fun j hj => absurd hj (Nat.not_lt_zero _)⟩ ?_ ?_
  · intro n z ⟨z1, z2, z3⟩
    show RT (f_X12_image_L28 (n + 1) (nI 86) z) Q
    unfold f_X12_image_L28
    refine RT.itT (show (86 : Int32) ≤ nI 86 by decide) (RT.bind (m_copies (Nat.le_refl _) (by omega)) (fun q q1 => RT.bnd (RT.bind (m_copies (Nat.le_refl _) (by omega)) (fun t t1 => RT.bnd (RT.done hQ ⟨z1, fun j a b c => ?_, fun j hj => ?_, fun j hj => ?_, fun j hj => ?_⟩)))))
    · show sA (sA z.2.2 24 q) 25 t j = _
      rw [sA_n c, sA_n b]; exact z2 j a
    · show sA (sA z.2.2 24 q) 25 t 23 j = _
      rw [sA_n (by omega), sA_n (by omega)]; exact z3 j hj
    · show sA (sA z.2.2 24 q) 25 t 24 j = _
      rw [sA_n (by omega), sA_s, q1 j hj, z2 11 (by omega)]
    · show sA (sA z.2.2 24 q) 25 t 25 j = _
      rw [sA_s, t1 j hj]
      show sA z.2.2 24 q 20 j = _
      rw [sA_n (by omega), z2 20 (by omega)]
  · intro n i z hi ⟨z1, z2, z3⟩ hk
    show RT (f_X12_image_L28 (n + 1) (nI i) z) Q
    unfold f_X12_image_L28
    refine RT.itF (show ¬ (86 : Int32) ≤ nI i from nI_ge (b := 86) hi (by omega)) ?_
    rw [sx_grd (show i < 172 by omega) (by omega), sx_grd (show i < 86 by omega) (by omega), sx_clamp (show i < 2147483648 by omega), bnd_nr, bnd_nr, nI_1]
    refine hk _ ⟨z1, fun j hj => ?_, fun j hj => ?_⟩
    · show uA z.2.2 23 _ _ j = _
      rw [uA_n hj]; exact z2 j hj
    · show uA z.2.2 23 i (z.2.2 10 i) 23 j = _
      by_cases c : j = i
      · rw [c, uA_ss, z2 10 (by omega)]
      · rw [uA_sn c]; exact z3 j (by omega)
theorem m_restL {y : MS} : RT (f_X12_restore_L32 FUEL (nI 0) y) (fun r => r.1 = 1 ∧ r.2.1 = y.1 ∧ (∀ j, j ≠ 10 → j ≠ 11 → j ≠ 20 → r.2.2.2 j = y.2.2 j) ∧ (∀ j, j < 86 → r.2.2.2 10 j = y.2.2 23 j) ∧ (∀ j, j < 3440 → r.2.2.2 11 j = y.2.2 24 j) ∧ ∀ j, j < 24 → r.2.2.2 20 j = y.2.2 25 j) := by
  refine RT.cps (fun Q hQ => ?_)
  refine RT.loop0 (fun n i (z : MS) => f_X12_restore_L32 n (nI i) z) 86 (fun i z => z.1 = y.1 ∧ (∀ j, j ≠ 10 → z.2.2 j = y.2.2 j) ∧ ∀ j, j < i → z.2.2 10 j = y.2.2 23 j) Q y (by omega) ⟨rfl, fun _ _ => rfl, fun j hj => absurd hj (Nat.not_lt_zero _)⟩ ?_ ?_
  · intro n z ⟨z1, z2, z3⟩
    show RT (f_X12_restore_L32 (n + 1) (nI 86) z) Q
    unfold f_X12_restore_L32
    refine RT.itT (show (86 : Int32) ≤ nI 86 by decide) (RT.bind (m_copies (Nat.le_refl _) (by omega)) (fun q q1 => RT.bnd (RT.bind (m_copies (Nat.le_refl _) (by omega)) (fun t t1 => RT.bnd (RT.done hQ ⟨rfl, z1, fun j a b c => ?_, fun j hj => ?_, fun j hj => ?_, fun j hj => ?_⟩)))))
    · show sA (sA z.2.2 11 q) 20 t j = _
      rw [sA_n c, sA_n b]; exact z2 j a
    · show sA (sA z.2.2 11 q) 20 t 10 j = _
      rw [sA_n (by omega), sA_n (by omega)]; exact z3 j hj
    · show sA (sA z.2.2 11 q) 20 t 11 j = _
      rw [sA_n (by omega), sA_s, q1 j hj, z2 24 (by omega)]
    · show sA (sA z.2.2 11 q) 20 t 20 j = _
      rw [sA_s, t1 j hj]
      show sA z.2.2 11 q 25 j = _
      rw [sA_n (by omega), z2 25 (by omega)]
  · intro n i z hi ⟨z1, z2, z3⟩ hk
    show RT (f_X12_restore_L32 (n + 1) (nI i) z) Q
    unfold f_X12_restore_L32
    refine RT.itF (show ¬ (86 : Int32) ≤ nI i from nI_ge (b := 86) hi (by omega)) ?_
    rw [sx_grd (show i < 86 by omega) (by omega), sx_grd (show i < 172 by omega) (by omega), sx_clamp (show i < 2147483648 by omega), bnd_nr, bnd_nr, nI_1]
    refine hk _ ⟨z1, fun j hj => ?_, fun j hj => ?_⟩
    · show uA z.2.2 10 _ _ j = _
      rw [uA_n hj]; exact z2 j hj
    · show uA z.2.2 10 i (z.2.2 23 i) 10 j = _
      by_cases c : j = i
      · rw [c, uA_ss, z2 23 (by omega)]
      · rw [uA_sn c]; exact z3 j (by omega)
