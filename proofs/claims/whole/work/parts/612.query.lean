theorem ix2 (b k i : Nat) {K : Int32} (e : K = nI k) : nI b + K + nI i = nI (b + k + i) := by rw [e, nI_add, nI_add]
theorem ix1 (b k : Nat) {K : Int32} (e : K = nI k) : nI b + K = nI (b + k) := by rw [e, nI_add]
theorem ix_2 (b i : Nat) : nI b + (2 : Int32) + nI i = nI (b + 2 + i) := ix2 (K := 2) b 2 i rfl
theorem ix_14 (b i : Nat) : nI b + (14 : Int32) + nI i = nI (b + 14 + i) := ix2 (K := 14) b 14 i rfl
theorem ix_26 (b i : Nat) : nI b + (26 : Int32) + nI i = nI (b + 26 + i) := ix2 (K := 26) b 26 i rfl
theorem ix_38 (b i : Nat) : nI b + (38 : Int32) + nI i = nI (b + 38 + i) := ix2 (K := 38) b 38 i rfl
theorem ix_50 (b i : Nat) : nI b + (50 : Int32) + nI i = nI (b + 50 + i) := ix2 (K := 50) b 50 i rfl
theorem ix_62 (b i : Nat) : nI b + (62 : Int32) + nI i = nI (b + 62 + i) := ix2 (K := 62) b 62 i rfl
theorem ix_74 (b i : Nat) : nI b + (74 : Int32) + nI i = nI (b + 74 + i) := ix2 (K := 74) b 74 i rfl
theorem jx_0 (b : Nat) : nI b + (0 : Int32) = nI (b + 0) := ix1 (K := 0) b 0 rfl
theorem jx_1 (b : Nat) : nI b + (1 : Int32) = nI (b + 1) := ix1 (K := 1) b 1 rfl
/-- sums of rows -/
def isum (f : Nat → Int32) : Nat → Int32 | 0 => 0 | n + 1 => isum f n + f n
theorem isum_cong {f g : Nat → Int32} : ∀ {n : Nat}, (∀ i, i < n → f i = g i) → isum f n = isum g n
  | 0, _ => rfl
  | n + 1, h => by rw [isum, isum, isum_cong (fun i hi => h i (by omega)), h n (by omega)]
theorem msk_step {f : Nat → Bool} {i : Nat} (h : f i = true) : msk f (i + 1) = msk f i ||| 2 ^ i := by rw [msk, if_pos h]
theorem msk_stay {f : Nat → Bool} {i : Nat} (h : f i = false) : msk f (i + 1) = msk f i := by rw [msk, if_neg (by rw [h]; decide), Nat.or_zero]
theorem g_inHouse {M : MS} {b n : Nat} (hp : M.1 1 = nI n) (hn : n ≤ 12) (hb : b ≤ 86) (h : Int32) : f_X12_inHouse M (nI b) h = some (nI (msk (fun p => decide (M.2.2 10 (b + 2 + p) = h)) n)) := by
  refine RT.eq ?_
  unfold f_X12_inHouse
  refine RT.loop0 (fun k i a => f_X12_inHouse_L5 (nI b) h M k a (nI i)) n (fun i a => a = nI (msk (fun p => decide (M.2.2 10 (b + 2 + p) = h)) i)) _ 0 (by omega) rfl ?_ ?_
  · intro k a ha
    show RT (f_X12_inHouse_L5 (nI b) h M (k + 1) a (nI n)) _
    unfold f_X12_inHouse_L5
    exact RT.itT (by rw [hp]; exact nI_le (Nat.le_refl _) (by omega)) (RT.ret ha)
  · intro k i a hi ha hk
    show RT (f_X12_inHouse_L5 (nI b) h M (k + 1) a (nI i)) _
    unfold f_X12_inHouse_L5
    rw [ix_2 b i, nI_clamp (by omega), nI_1]
    refine RT.itF (by rw [hp]; exact nI_ge hi (by omega)) (RT.grd (vi_n (by omega) (by omega)) (RT.ite (fun c => RT.bnd (RT.bnd ?_)) (fun c => RT.bnd (RT.bnd ?_))))
    · refine hk _ ?_
      rw [msk_step (by simp [c]), sh1 (by omega), ha, fa_or]
    · refine hk _ ?_
      rw [msk_stay (by simp [c]), ha, show (0 : Int32) = nI 0 from rfl, fa_or, Nat.or_zero]
theorem g_sizeOf {M : MS} {b n : Nat} (hp : M.1 1 = nI n) (hn : n ≤ 12) (hb : b ≤ 86) (h : Int32) : f_X12_sizeOf M (nI b) h = some (nI (fb_ct (fun p => decide (M.2.2 10 (b + 2 + p) = h)) n)) := by
  unfold f_X12_sizeOf
  have hm := msk_lt (fun p => decide (M.2.2 10 (b + 2 + p) = h)) n
  rw [g_inHouse hp hn hb h, Option.bind_some, g_bits (pw_lt hm (by omega)), Option.bind_some, msk_cnt (by omega)]
theorem g_whoAt {M : MS} {b n : Nat} (hp : M.1 1 = nI n) (hn : n ≤ 12) (hb : b ≤ 86) (h x : Int32) : RT (f_X12_whoAt M (nI b) h x) (fun r => (r = -1 ∧ ∀ p, p < n → ¬ (M.2.2 10 (b + 2 + p) = h ∧ M.2.2 10 (b + 14 + p) = x)) ∨ ∃ p, p < n ∧ r = nI p ∧ M.2.2 10 (b + 2 + p) = h ∧ M.2.2 10 (b + 14 + p) = x ∧ ∀ q, q < p → ¬ (M.2.2 10 (b + 2 + q) = h ∧ M.2.2 10 (b + 14 + q) = x)) := by
  unfold f_X12_whoAt
  refine RT.loop0 (fun k i (_ : Unit) => f_X12_whoAt_L3 (nI b) h x M k (nI i)) n (fun i _ => ∀ q, q < i → ¬ (M.2.2 10 (b + 2 + q) = h ∧ M.2.2 10 (b + 14 + q) = x)) _ () (by omega) (fun q hq => absurd hq (Nat.not_lt_zero _)) ?_ ?_
  · intro k _ ha
    show RT (f_X12_whoAt_L3 (nI b) h x M (k + 1) (nI n)) _
    unfold f_X12_whoAt_L3
    exact RT.itT (by rw [hp]; exact nI_le (Nat.le_refl _) (by omega)) (RT.ret (Or.inl ⟨rfl, ha⟩))
  · intro k i _ hi ha hk
    show RT (f_X12_whoAt_L3 (nI b) h x M (k + 1) (nI i)) _
    unfold f_X12_whoAt_L3
    rw [ix_2 b i, ix_14 b i, nI_clamp (by omega), nI_clamp (by omega), nI_1]
    refine RT.itF (by rw [hp]; exact nI_ge hi (by omega)) (RT.grd (vi_n (by omega) (by omega)) (RT.ite (fun c => RT.grd (vi_n (by omega) (by omega)) (RT.ite (fun c2 => RT.ret (Or.inr ⟨i, hi, rfl, c, c2, ha⟩)) (fun c2 => RT.bnd (hk () ?_)))) (fun c => RT.bnd (hk () ?_))))
    · intro q hq
      rcases Nat.lt_or_ge q i with z | z
      · exact ha q z
      · have e : q = i := by omega
        subst e; exact fun w => c2 w.2
    · intro q hq
      rcases Nat.lt_or_ge q i with z | z
      · exact ha q z
      · have e : q = i := by omega
        subst e; exact fun w => c w.1
theorem g_ranksOf {M : MS} {b n : Nat} (hp : M.1 1 = nI n) (hn : n ≤ 12) (hb : b ≤ 86) (h : Int32) : f_X12_ranksOf M (nI b) h = some (isum (fun p => if M.2.2 10 (b + 2 + p) = h then M.2.2 10 (b + 50 + p) else 0) n) := by
  refine RT.eq ?_
  unfold f_X12_ranksOf
  refine RT.loop0 (fun k i a => f_X12_ranksOf_L5 (nI b) h M k a (nI i)) n (fun i a => a = isum (fun p => if M.2.2 10 (b + 2 + p) = h then M.2.2 10 (b + 50 + p) else 0) i) _ 0 (by omega) rfl ?_ ?_
  · intro k a ha
    show RT (f_X12_ranksOf_L5 (nI b) h M (k + 1) a (nI n)) _
    unfold f_X12_ranksOf_L5
    exact RT.itT (by rw [hp]; exact nI_le (Nat.le_refl _) (by omega)) (RT.ret ha)
  · intro k i a hi ha hk
    show RT (f_X12_ranksOf_L5 (nI b) h M (k + 1) a (nI i)) _
    unfold f_X12_ranksOf_L5
    rw [ix_2 b i, ix_50 b i, nI_clamp (by omega), nI_clamp (by omega), nI_1]
    refine RT.itF (by rw [hp]; exact nI_ge hi (by omega)) (RT.grd (vi_n (by omega) (by omega)) (RT.ite (fun c => RT.grd (vi_n (by omega) (by omega)) (RT.bnd (RT.bnd (hk _ ?_)))) (fun c => RT.bnd (RT.bnd (hk _ ?_)))))
    · rw [isum, if_pos c, ha]
    · rw [isum, if_neg c, ha]
theorem c_dwell {v : Ob} {n : Nat} (hp : v.1 0 = nI n) (hn : n ≤ 12) (h : Int32) : f_X10_dwellers v h = some (nI (msk (fun p => decide (v.2 2 p = h)) n)) := by
  refine RT.eq ?_
  unfold f_X10_dwellers
  refine RT.loop0 (fun k i a => f_X10_dwellers_L4 h v k a (nI i)) n (fun i a => a = nI (msk (fun p => decide (v.2 2 p = h)) i)) _ 0 (by omega) rfl ?_ ?_
  · intro k a ha
    show RT (f_X10_dwellers_L4 h v (k + 1) a (nI n)) _
    unfold f_X10_dwellers_L4
    exact RT.itT (by rw [hp]; exact nI_le (Nat.le_refl _) (by omega)) (RT.ret ha)
  · intro k i a hi ha hk
    show RT (f_X10_dwellers_L4 h v (k + 1) a (nI i)) _
    unfold f_X10_dwellers_L4
    rw [nI_clamp (by omega), nI_1]
    refine RT.itF (by rw [hp]; exact nI_ge hi (by omega)) (RT.grd (vi_n (by omega) (by omega)) (RT.ite (fun c => RT.bnd (RT.bnd ?_)) (fun c => RT.bnd ?_)))
    · refine hk _ ?_
      rw [msk_step (by simp [c]), sh1 (by omega), ha, fa_or]
    · refine hk _ ?_
      rw [msk_stay (by simp [c]), ha]
theorem c_at0 {v : Ob} {n : Nat} (hp : v.1 0 = nI n) (hn : n ≤ 12) (h x : Int32) : RT (f_X10_at v h x) (fun r => (r = -1 ∧ ∀ p, p < n → ¬ (v.2 2 p = h ∧ v.2 3 p = x)) ∨ ∃ p, p < n ∧ r = nI p ∧ v.2 2 p = h ∧ v.2 3 p = x ∧ ∀ q, q < p → ¬ (v.2 2 q = h ∧ v.2 3 q = x)) := by
  unfold f_X10_at
  refine RT.loop0 (fun k i (_ : Unit) => f_X10_at_L2 h x v k (nI i)) n (fun i _ => ∀ q, q < i → ¬ (v.2 2 q = h ∧ v.2 3 q = x)) _ () (by omega) (fun q hq => absurd hq (Nat.not_lt_zero _)) ?_ ?_
  · intro k _ ha
    show RT (f_X10_at_L2 h x v (k + 1) (nI n)) _
    unfold f_X10_at_L2
    exact RT.itT (by rw [hp]; exact nI_le (Nat.le_refl _) (by omega)) (RT.ret (Or.inl ⟨rfl, ha⟩))
  · intro k i _ hi ha hk
    show RT (f_X10_at_L2 h x v (k + 1) (nI i)) _
    unfold f_X10_at_L2
    rw [nI_clamp (by omega), nI_1]
    refine RT.itF (by rw [hp]; exact nI_ge hi (by omega)) (RT.grd (vi_n (by omega) (by omega)) (RT.ite (fun c => RT.grd (vi_n (by omega) (by omega)) (RT.ite (fun c2 => RT.ret (Or.inr ⟨i, hi, rfl, c, c2, ha⟩)) (fun c2 => RT.bnd (hk () ?_)))) (fun c => RT.bnd (hk () ?_))))
    · intro q hq
      rcases Nat.lt_or_ge q i with z | z
      · exact ha q z
      · have e : q = i := by omega
        subst e; exact fun w => c2 w.2
    · intro q hq
      rcases Nat.lt_or_ge q i with z | z
      · exact ha q z
      · have e : q = i := by omega
        subst e; exact fun w => c w.1
theorem c_ranksIn0 {v : Ob} {n : Nat} (hp : v.1 0 = nI n) (hn : n ≤ 12) (h : Int32) : f_X10_ranksIn v h = some (isum (fun p => if v.2 2 p = h then v.2 1 p else 0) n) := by
  refine RT.eq ?_
  unfold f_X10_ranksIn
  refine RT.loop0 (fun k i a => f_X10_ranksIn_L4 h v k a (nI i)) n (fun i a => a = isum (fun p => if v.2 2 p = h then v.2 1 p else 0) i) _ 0 (by omega) rfl ?_ ?_
  · intro k a ha
    show RT (f_X10_ranksIn_L4 h v (k + 1) a (nI n)) _
    unfold f_X10_ranksIn_L4
    exact RT.itT (by rw [hp]; exact nI_le (Nat.le_refl _) (by omega)) (RT.ret ha)
  · intro k i a hi ha hk
    show RT (f_X10_ranksIn_L4 h v (k + 1) a (nI i)) _
    unfold f_X10_ranksIn_L4
    rw [nI_clamp (by omega), nI_1]
    refine RT.itF (by rw [hp]; exact nI_ge hi (by omega)) (RT.grd (vi_n (by omega) (by omega)) (RT.ite (fun c => RT.grd (vi_n (by omega) (by omega)) (RT.bnd (RT.bnd (hk _ ?_)))) (fun c => RT.bnd (hk _ ?_))))
    · rw [isum, if_pos c, ha]
    · rw [isum, if_neg c, ha]; exact (Int32.add_zero _).symm
