/-! the tape grows -/
theorem b8_all : ∀ t, t < 256 → BitVec.signExtend 32 (BitVec.ofNat 8 t) = (sB t).toBitVec := by decide +kernel
theorem nar_b (y : Int32) : vp_nar .byte y.toInt8.toInt32 = sB (y.toBitVec.toNat % 256) := by
  have h1 : vp_nar .byte y.toInt8.toInt32 = y.toInt8.toInt32.toInt8.toInt32 := rfl
  have h2 : y.toInt8.toInt32.toInt8 = y.toInt8 := by simp
  rw [h1, h2]
  apply Int32.toBitVec_inj.mp
  rw [← b8_all _ (Nat.mod_lt _ (by omega))]
  rw [Int8.toBitVec_toInt32, Int32.toBitVec_toInt8]
  congr 1
  apply BitVec.eq_of_toNat_eq
  first
    | rw [BitVec.signExtend_eq_setWidth_of_le _ (by omega)]
    | rw [BitVec.signExtend_eq_setWidth_of_lt _ (by omega)]
  simp
theorem and_255 (y : Int32) : y &&& (255 : Int32) = nI (y.toBitVec.toNat % 256) := by
  rw [show y &&& (255 : Int32) = nI y.toBitVec.toNat &&& nI (2 ^ 8 - 1) from congrArg (· &&& (255 : Int32)) (nI_bv y), fa_mask]
def bq (p : Int32) (q : Nat) : Nat := (p >>> (nI (24 - 8 * q) &&& 31)).toBitVec.toNat % 256
def sh (i : Nat) : Int32 := if i = 0 then -8 else nI (8 * (i - 1))
theorem sh_s : ∀ i, i < 4 → sh (i + 1) + (-8) = sh i := by decide
theorem sh_n : ∀ i, i < 4 → ¬ sh (i + 1) < 0 := by decide
theorem sh_i {i q : Nat} (h : q = 3 - i) (hi : i < 4) : sh (i + 1) = nI (24 - 8 * q) := by
  unfold sh
  rw [if_neg (by omega), show 8 * (i + 1 - 1) = 24 - 8 * q by omega]
theorem c_put {x0 : Ob} {tp : Nat → Int32} {k : Nat} (p : Int32) (h1 : x0.1 1 = nI k) (hk : k + 4 ≤ 700) : RT (f_X11_putNumber x0 tp p) (fun r => r.1.1 1 = nI (k + 4) ∧ (∀ j, j ≠ 1 → r.1.1 j = x0.1 j) ∧ r.1.2 = x0.2 ∧ (∀ j, j < k → r.2 j = tp j) ∧ ∀ q, q < 4 → r.2 (k + q) = sB (bq p q)) := by
  refine RT.cps (fun Q hQ => ?_)
  unfold f_X11_putNumber
  refine RT.down (fun n i (a : Ob × (Nat → Int32)) => f_X11_putNumber_L3 p n (sh i) a.1 a.2) (fun i a => i ≤ 4 ∧ a.1.1 1 = nI (k + (4 - i)) ∧ (∀ j, j ≠ 1 → a.1.1 j = x0.1 j) ∧ a.1.2 = x0.2 ∧ (∀ j, j < k → a.2 j = tp j) ∧ ∀ q, q < 4 - i → a.2 (k + q) = sB (bq p q)) Q ?_ ?_ FUEL 4 (x0, tp) (by decide) ⟨by omega, h1, fun _ _ => rfl, rfl, fun _ _ => rfl, fun q hq => absurd hq (by omega)⟩
  · intro n i a ⟨i4, a1, a2, a3, a4, a5⟩ hk2
    show RT (f_X11_putNumber_L3 p (n + 1) (sh (i + 1)) a.1 a.2) Q
    unfold f_X11_putNumber_L3
    refine RT.itF (sh_n i (by omega)) ?_
    rw [a1]
    refine RT.itF (show ¬ (700 : Int32) ≤ nI (k + (4 - (i + 1))) from nI_ge (b := 700) (by omega) (by omega)) ?_
    rw [sx_grd (by omega) (by omega), sx_clamp (by omega), bnd_nr, bnd_nr, bnd_nr, sh_s i (by omega), nI_1]
    refine hk2 (_, _) ⟨by omega, ?_, fun j hj => ?_, a3, fun j hj => ?_, fun q hq => ?_⟩
    · show upd a.1.1 1 (nI (k + (4 - (i + 1)) + 1)) 1 = _
      rw [pk_us, show k + (4 - (i + 1)) + 1 = k + (4 - i) by omega]
    · show upd a.1.1 1 (nI (k + (4 - (i + 1)) + 1)) j = _
      rw [pk_un hj]; exact a2 j hj
    · show upd a.2 (k + (4 - (i + 1))) _ j = _
      rw [pk_un (by omega)]; exact a4 j hj
    · show upd a.2 (k + (4 - (i + 1))) (vp_nar .byte (p >>> (sh (i + 1) &&& 31)).toInt8.toInt32) (k + q) = _
      by_cases c : q = 3 - i
      · rw [show k + (4 - (i + 1)) = k + q by omega, pk_us, nar_b, sh_i c (by omega)]; rfl
      · rw [pk_un (by omega)]; exact a5 q (by omega)
  · intro n a ⟨_, a1, a2, a3, a4, a5⟩
    show RT (f_X11_putNumber_L3 p (n + 1) (sh 0) a.1 a.2) Q
    unfold f_X11_putNumber_L3
    exact RT.itT (show sh 0 < 0 by decide) (RT.done hQ ⟨a1, a2, a3, a4, a5⟩)
theorem m_lay {M : MS} {k : Nat} (p : Int32) (h1 : M.1 8 = nI k) (hk : k + 4 ≤ 700) : RT (f_X12_lays M p) (fun r => r.1 8 = nI (k + 4) ∧ (∀ j, j ≠ 8 → r.1 j = M.1 j) ∧ (∀ j, j ≠ 3 → r.2.2 j = M.2.2 j) ∧ (∀ j, j < k → r.2.2 3 j = M.2.2 3 j) ∧ ∀ q, q < 4 → r.2.2 3 (k + q) = nI (bq p q)) := by
  refine RT.cps (fun Q hQ => ?_)
  unfold f_X12_lays
  refine RT.down (fun n i (a : MS) => f_X12_lays_L3 p n (sh i) a) (fun i a => i ≤ 4 ∧ a.1 8 = nI (k + (4 - i)) ∧ (∀ j, j ≠ 8 → a.1 j = M.1 j) ∧ (∀ j, j ≠ 3 → a.2.2 j = M.2.2 j) ∧ (∀ j, j < k → a.2.2 3 j = M.2.2 3 j) ∧ ∀ q, q < 4 - i → a.2.2 3 (k + q) = nI (bq p q)) Q ?_ ?_ FUEL 4 M (by decide) ⟨by omega, h1, fun _ _ => rfl, fun _ _ => rfl, fun _ _ => rfl, fun q hq => absurd hq (by omega)⟩
  · intro n i a ⟨i4, a1, a2, a3, a4, a5⟩ hk2
    show RT (f_X12_lays_L3 p (n + 1) (sh (i + 1)) a) Q
    unfold f_X12_lays_L3
    refine RT.itF (sh_n i (by omega)) ?_
    rw [a1, sx_grd (by omega) (by omega), sx_clamp (by omega), bnd_nr]
    rw [show ((a.1, a.2.1, uA a.2.2 3 (k + (4 - (i + 1))) ((p >>> (sh (i + 1) &&& 31)) &&& (255 : Int32))) : MS).1 8 = nI (k + (4 - (i + 1))) from a1, bnd_nr, bnd_nr, sh_s i (by omega), nI_1]
    refine hk2 _ ⟨by omega, ?_, fun j hj => ?_, fun j hj => ?_, fun j hj => ?_, fun q hq => ?_⟩
    · show upd a.1 8 (nI (k + (4 - (i + 1)) + 1)) 8 = _
      rw [pk_us, show k + (4 - (i + 1)) + 1 = k + (4 - i) by omega]
    · show upd a.1 8 (nI (k + (4 - (i + 1)) + 1)) j = _
      rw [pk_un hj]; exact a2 j hj
    · show uA a.2.2 3 (k + (4 - (i + 1))) ((p >>> (sh (i + 1) &&& 31)) &&& (255 : Int32)) j = _
      rw [uA_n hj]; exact a3 j hj
    · show uA a.2.2 3 (k + (4 - (i + 1))) ((p >>> (sh (i + 1) &&& 31)) &&& (255 : Int32)) 3 j = _
      rw [uA_sn (by omega)]; exact a4 j hj
    · show uA a.2.2 3 (k + (4 - (i + 1))) ((p >>> (sh (i + 1) &&& 31)) &&& (255 : Int32)) 3 (k + q) = _
      by_cases c : q = 3 - i
      · rw [show k + (4 - (i + 1)) = k + q by omega, uA_ss, and_255, sh_i c (by omega)]; rfl
      · rw [uA_sn (by omega)]; exact a5 q (by omega)
  · intro n a ⟨_, a1, a2, a3, a4, a5⟩
    show RT (f_X12_lays_L3 p (n + 1) (sh 0) a) Q
    unfold f_X12_lays_L3
    exact RT.itT (show sh 0 < 0 by decide) (RT.done hQ ⟨a1, a2, a3, a4, a5⟩)
theorem put1 {T : Nat → Nat} {k : Nat} {tp : Nat → Int32} {x0 : Ob} {M : MS} (p : Int32) (t : TAPE T k tp M) (h1 : x0.1 1 = nI k) (h8 : M.1 8 = nI k) (hk : k + 4 ≤ 700) : ∃ T' r M', f_X11_putNumber x0 tp p = some r ∧ f_X12_lays M p = some M' ∧ TAPE T' (k + 4) r.2 M' ∧ r.1.1 1 = nI (k + 4) ∧ M'.1 8 = nI (k + 4) ∧ ((∀ j, j ≠ 1 → r.1.1 j = x0.1 j) ∧ r.1.2 = x0.2) ∧ (∀ j, j ≠ 8 → M'.1 j = M.1 j) ∧ ∀ j, j ≠ 3 → M'.2.2 j = M.2.2 j := by
  obtain ⟨r, er, r1, r2, r3, r4, r5⟩ := c_put (tp := tp) p h1 hk
  obtain ⟨m, em, m1, m2, m3, m4, m5⟩ := m_lay p h8 hk
  refine ⟨fun j => if j < k then T j else bq p (j - k), r, m, er, em, fun i hi => ?_, r1, m1, ⟨r2, r3⟩, m2, m3⟩
  by_cases c : i < k
  · show (if i < k then T i else bq p (i - k)) < 256 ∧ r.2 i = sB (if i < k then T i else bq p (i - k)) ∧ m.2.2 3 i = nI (if i < k then T i else bq p (i - k))
    rw [if_pos c, r4 i c, m4 i c]; exact t i c
  · show (if i < k then T i else bq p (i - k)) < 256 ∧ r.2 i = sB (if i < k then T i else bq p (i - k)) ∧ m.2.2 3 i = nI (if i < k then T i else bq p (i - k))
    have e : i = k + (i - k) := by omega
    rw [if_neg c]
    refine ⟨Nat.mod_lt _ (by omega), ?_, ?_⟩
    · rw [e, r5 (i - k) (by omega), show k + (i - k) - k = i - k by omega]
    · rw [e, m5 (i - k) (by omega), show k + (i - k) - k = i - k by omega]
