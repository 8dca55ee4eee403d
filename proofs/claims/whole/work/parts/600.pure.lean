/-! pure functions: ends with a value that .. -/
def RT {α : Type} (o : Option α) (Q : α → Prop) : Prop := ∃ r, o = some r ∧ Q r
theorem RT.ret {α : Type} {Q : α → Prop} {r : α} (h : Q r) : RT (some r) Q := ⟨r, rfl, h⟩
theorem RT.grd {α : Type} {Q : α → Prop} {b : Bool} {o : Option α} (hb : b = true) (h : RT o Q) : RT (grd b o) Q := by subst hb; exact h
theorem RT.bnd {α β : Type} {Q : α → Prop} {x : β} {k : β → Option α} (h : RT (k x) Q) : RT (bnd x k) Q := h
theorem RT.bind {α β : Type} {Q : α → Prop} {P : β → Prop} {o : Option β} {k : β → Option α} (h : RT o P) (hk : ∀ r, P r → RT (k r) Q) : RT (o.bind k) Q := by
  obtain ⟨r, e, hr⟩ := h
  obtain ⟨q, e2, hq⟩ := hk r hr
  exact ⟨q, by rw [e]; exact e2, hq⟩
theorem RT.bindE {α β : Type} {Q : α → Prop} {o : Option β} {r : β} {k : β → Option α} (h : o = some r) (hk : RT (k r) Q) : RT (o.bind k) Q := by
  obtain ⟨q, e2, hq⟩ := hk
  exact ⟨q, by rw [h]; exact e2, hq⟩
theorem RT.ite {α : Type} {Q : α → Prop} {c : Prop} [Decidable c] {a b : Option α} (h1 : c → RT a Q) (h2 : ¬ c → RT b Q) : RT (if c then a else b) Q := by
  by_cases h : c
  · rw [if_pos h]; exact h1 h
  · rw [if_neg h]; exact h2 h
theorem RT.itT {α : Type} {Q : α → Prop} {c : Prop} [Decidable c] {a b : Option α} (h : c) (h1 : RT a Q) : RT (if c then a else b) Q := by rw [if_pos h]; exact h1
theorem RT.itF {α : Type} {Q : α → Prop} {c : Prop} [Decidable c] {a b : Option α} (h : ¬ c) (h1 : RT b Q) : RT (if c then a else b) Q := by rw [if_neg h]; exact h1
theorem RT.weak {α : Type} {Q R : α → Prop} {o : Option α} (h : RT o Q) (hk : ∀ r, Q r → R r) : RT o R := by
  obtain ⟨r, e, hr⟩ := h
  exact ⟨r, e, hk r hr⟩
theorem RT.eq {α : Type} {o : Option α} {r : α} (h : RT o (fun q => q = r)) : o = some r := by
  obtain ⟨q, e, rfl⟩ := h
  exact e
theorem RT.of {α : Type} {Q : α → Prop} {o : Option α} {r : α} (h : o = some r) (hq : Q r) : RT o Q := ⟨r, h, hq⟩
/-- a loop that counts up to N: it goes on, or ends early -/
theorem RT.loop {σ α : Type} (F : Nat → Nat → σ → Option α) (N : Nat) (P : Nat → σ → Prop) (Q : α → Prop) (hs : ∀ n i a, i < N → P i a → (∀ a', P (i + 1) a' → RT (F n (i + 1) a') Q) → RT (F (n + 1) i a) Q) (hx : ∀ n a, P N a → RT (F (n + 1) N a) Q) : ∀ (n i : Nat) (a : σ), i ≤ N → N < n + i → P i a → RT (F n i a) Q := by
  intro n
  induction n with
  | zero => intro i a h1 h2; exact absurd h2 (by omega)
  | succ n ih =>
    intro i a h1 h2 hp
    rcases Nat.lt_or_ge i N with h | h
    · exact hs n i a h hp (fun a' hp' => ih (i + 1) a' h (by omega) hp')
    · have e : i = N := by omega
      subst e
      exact hx n a hp
theorem RT.loop0 {σ α : Type} (F : Nat → Nat → σ → Option α) (N : Nat) (P : Nat → σ → Prop) (Q : α → Prop) (a : σ) (hN : N < 100000) (h0 : P 0 a) (hx : ∀ n a, P N a → RT (F (n + 1) N a) Q) (hs : ∀ n i a, i < N → P i a → (∀ a', P (i + 1) a' → RT (F n (i + 1) a') Q) → RT (F (n + 1) i a) Q) : RT (F FUEL 0 a) Q :=
  RT.loop F N P Q hs hx FUEL 0 a (Nat.zero_le _) (by unfold FUEL; omega) h0
theorem RT.loop0_2 {σ1 σ2 α : Type} (F : Nat → Nat → σ1 → σ2 → Option α) (N : Nat) (P : Nat → σ1 → σ2 → Prop) (Q : α → Prop) (a1 : σ1) (a2 : σ2) (hN : N < 100000) (h0 : P 0 a1 a2) (hx : ∀ n a1 a2, P N a1 a2 → RT (F (n + 1) N a1 a2) Q) (hs : ∀ n i a1 a2, i < N → P i a1 a2 → (∀ b1 b2, P (i + 1) b1 b2 → RT (F n (i + 1) b1 b2) Q) → RT (F (n + 1) i a1 a2) Q) : RT (F FUEL 0 a1 a2) Q :=
  RT.loop0 (fun n i (a : σ1 × σ2) => F n i a.1 a.2) N (fun i a => P i a.1 a.2) Q (a1, a2) hN h0 (fun n a h => hx n a.1 a.2 h) (fun n i a hi hp hk => hs n i a.1 a.2 hi hp (fun b1 b2 hb => hk (b1, b2) hb))
theorem RT.loop0_3 {σ1 σ2 σ3 α : Type} (F : Nat → Nat → σ1 → σ2 → σ3 → Option α) (N : Nat) (P : Nat → σ1 → σ2 → σ3 → Prop) (Q : α → Prop) (a1 : σ1) (a2 : σ2) (a3 : σ3) (hN : N < 100000) (h0 : P 0 a1 a2 a3) (hx : ∀ n a1 a2 a3, P N a1 a2 a3 → RT (F (n + 1) N a1 a2 a3) Q) (hs : ∀ n i a1 a2 a3, i < N → P i a1 a2 a3 → (∀ b1 b2 b3, P (i + 1) b1 b2 b3 → RT (F n (i + 1) b1 b2 b3) Q) → RT (F (n + 1) i a1 a2 a3) Q) : RT (F FUEL 0 a1 a2 a3) Q :=
  RT.loop0 (fun n i (a : σ1 × σ2 × σ3) => F n i a.1 a.2.1 a.2.2) N (fun i a => P i a.1 a.2.1 a.2.2) Q (a1, a2, a3) hN h0 (fun n a h => hx n a.1 a.2.1 a.2.2 h) (fun n i a hi hp hk => hs n i a.1 a.2.1 a.2.2 hi hp (fun b1 b2 b3 hb => hk (b1, b2, b3) hb))
theorem RT.loop0_4 {σ1 σ2 σ3 σ4 α : Type} (F : Nat → Nat → σ1 → σ2 → σ3 → σ4 → Option α) (N : Nat) (P : Nat → σ1 → σ2 → σ3 → σ4 → Prop) (Q : α → Prop) (a1 : σ1) (a2 : σ2) (a3 : σ3) (a4 : σ4) (hN : N < 100000) (h0 : P 0 a1 a2 a3 a4) (hx : ∀ n a1 a2 a3 a4, P N a1 a2 a3 a4 → RT (F (n + 1) N a1 a2 a3 a4) Q) (hs : ∀ n i a1 a2 a3 a4, i < N → P i a1 a2 a3 a4 → (∀ b1 b2 b3 b4, P (i + 1) b1 b2 b3 b4 → RT (F n (i + 1) b1 b2 b3 b4) Q) → RT (F (n + 1) i a1 a2 a3 a4) Q) : RT (F FUEL 0 a1 a2 a3 a4) Q :=
  RT.loop0 (fun n i (a : σ1 × σ2 × σ3 × σ4) => F n i a.1 a.2.1 a.2.2.1 a.2.2.2) N (fun i a => P i a.1 a.2.1 a.2.2.1 a.2.2.2) Q (a1, a2, a3, a4) hN h0 (fun n a h => hx n a.1 a.2.1 a.2.2.1 a.2.2.2 h) (fun n i a hi hp hk => hs n i a.1 a.2.1 a.2.2.1 a.2.2.2 hi hp (fun b1 b2 b3 b4 hb => hk (b1, b2, b3, b4) hb))
theorem RT.loop0_5 {σ1 σ2 σ3 σ4 σ5 α : Type} (F : Nat → Nat → σ1 → σ2 → σ3 → σ4 → σ5 → Option α) (N : Nat) (P : Nat → σ1 → σ2 → σ3 → σ4 → σ5 → Prop) (Q : α → Prop) (a1 : σ1) (a2 : σ2) (a3 : σ3) (a4 : σ4) (a5 : σ5) (hN : N < 100000) (h0 : P 0 a1 a2 a3 a4 a5) (hx : ∀ n a1 a2 a3 a4 a5, P N a1 a2 a3 a4 a5 → RT (F (n + 1) N a1 a2 a3 a4 a5) Q) (hs : ∀ n i a1 a2 a3 a4 a5, i < N → P i a1 a2 a3 a4 a5 → (∀ b1 b2 b3 b4 b5, P (i + 1) b1 b2 b3 b4 b5 → RT (F n (i + 1) b1 b2 b3 b4 b5) Q) → RT (F (n + 1) i a1 a2 a3 a4 a5) Q) : RT (F FUEL 0 a1 a2 a3 a4 a5) Q :=
  RT.loop0 (fun n i (a : σ1 × σ2 × σ3 × σ4 × σ5) => F n i a.1 a.2.1 a.2.2.1 a.2.2.2.1 a.2.2.2.2) N (fun i a => P i a.1 a.2.1 a.2.2.1 a.2.2.2.1 a.2.2.2.2) Q (a1, a2, a3, a4, a5) hN h0 (fun n a h => hx n a.1 a.2.1 a.2.2.1 a.2.2.2.1 a.2.2.2.2 h) (fun n i a hi hp hk => hs n i a.1 a.2.1 a.2.2.1 a.2.2.2.1 a.2.2.2.2 hi hp (fun b1 b2 b3 b4 b5 hb => hk (b1, b2, b3, b4, b5) hb))
/-- a loop with a measure -/
theorem RT.meas {σ α : Type} (F : Nat → σ → Option α) (P : σ → Prop) (μ : σ → Nat) (Q : α → Prop) (hs : ∀ n a, P a → (∀ a', P a' → μ a' < μ a → RT (F n a') Q) → RT (F (n + 1) a) Q) : ∀ (n : Nat) (a : σ), μ a < n → P a → RT (F n a) Q := by
  intro n
  induction n with
  | zero => intro a h; exact absurd h (by omega)
  | succ n ih => exact fun a h hp => hs n a hp (fun a' hp' h' => ih a' (by omega) hp')
theorem vi_n {k N : Nat} (h : k < N) (hN : N < 2 ^ 31) : vi (nI k) N = true := by
  unfold vi
  rw [nI_clamp (by omega)]
  simp [h, nI_pos' (show k < 2 ^ 31 by omega)]
theorem vi_of {x : Int32} {k N : Nat} (e : x = nI k) (h : k < N) (hN : N < 2 ^ 31) : vi x N = true := by rw [e]; exact vi_n h hN
theorem uA_s {A : Nat → Nat → Int32} {j i : Nat} {x : Int32} : uA A j i x j = upd (A j) i x := if_pos rfl
theorem uA_n {A : Nat → Nat → Int32} {j i q : Nat} {x : Int32} (h : q ≠ j) : uA A j i x q = A q := if_neg h
theorem uA_ss {A : Nat → Nat → Int32} {j i : Nat} {x : Int32} : uA A j i x j i = x := by rw [uA_s]; exact pk_us
theorem uA_sn {A : Nat → Nat → Int32} {j i k : Nat} {x : Int32} (h : k ≠ i) : uA A j i x j k = A j k := by rw [uA_s]; exact pk_un h
theorem sA_s {A : Nat → Nat → Int32} {j : Nat} {f : Nat → Int32} : sA A j f j = f := if_pos rfl
theorem sA_n {A : Nat → Nat → Int32} {j q : Nat} {f : Nat → Int32} (h : q ≠ j) : sA A j f q = A q := if_neg h
/-- a mask: the bits of those who .. -/
def msk (f : Nat → Bool) : Nat → Nat | 0 => 0 | n + 1 => msk f n ||| (if f n then 2 ^ n else 0)
theorem msk_bit (f : Nat → Bool) : ∀ (n i : Nat), (msk f n).testBit i = (decide (i < n) && f i)
  | 0, i => by simp [msk]
  | n + 1, i => by
    rw [msk, Nat.testBit_or, msk_bit f n i]
    by_cases h : f n = true
    · rw [if_pos h, Nat.testBit_two_pow]
      by_cases e : n = i
      · subst e; simp [h]
      · simp only [e, decide_false, Bool.or_false]
        congr 1
        exact decide_eq_decide.mpr (by omega)
    · rw [if_neg h, Nat.zero_testBit]
      by_cases e : i = n
      · subst e; simp [Bool.eq_false_iff.mpr h]
      · simp only [Bool.or_false]
        congr 1
        exact decide_eq_decide.mpr (by omega)
theorem msk_lt (f : Nat → Bool) : ∀ n, msk f n < 2 ^ n
  | 0 => by simp [msk]
  | n + 1 => by
    rw [msk]
    refine Nat.or_lt_two_pow ?_ ?_
    · exact Nat.lt_trans (msk_lt f n) (Nat.pow_lt_pow_right (by omega) (by omega))
    · split
      · exact Nat.pow_lt_pow_right (by omega) (by omega)
      · exact Nat.two_pow_pos _
theorem msk_cong {f g : Nat → Bool} : ∀ {n : Nat}, (∀ i, i < n → f i = g i) → msk f n = msk g n
  | 0, _ => rfl
  | n + 1, h => by rw [msk, msk, msk_cong (fun i hi => h i (by omega)), h n (by omega)]
theorem bit_ext {a b n : Nat} (ha : a < 2 ^ n) (hb : b < 2 ^ n) (h : ∀ i, i < n → a.testBit i = b.testBit i) : a = b := by
  apply Nat.eq_of_testBit_eq
  intro i
  by_cases hi : i < n
  · exact h i hi
  · rw [Nat.testBit_lt_two_pow (Nat.lt_of_lt_of_le ha (Nat.pow_le_pow_right (by omega) (by omega))), Nat.testBit_lt_two_pow (Nat.lt_of_lt_of_le hb (Nat.pow_le_pow_right (by omega) (by omega)))]
theorem pw_lt {a k : Nat} (h : a < 2 ^ k) (hk : k ≤ 30) : a < 2 ^ 31 := Nat.lt_of_lt_of_le h (Nat.pow_le_pow_right (by omega) (by omega))
theorem sh1 {p : Nat} (h : p < 31) : (1 : Int32) <<< (nI p &&& 31) = nI (2 ^ p) := by
  rw [show (1 : Int32) = nI 1 from rfl, pk_shlN (nI p &&& 31) p (s_l p (by omega)) (by rw [Nat.one_mul]; exact Nat.pow_lt_pow_right (by omega) (by omega)), Nat.one_mul]
theorem sr1 {m p : Nat} (hm : m < 2 ^ 31) (h : p < 31) : (nI m >>> (nI p &&& 31)) &&& 1 = nI (if m.testBit p then 1 else 0) := by
  rw [pk_shrN hm (nI p &&& 31) p (s_l p (by omega)), show (1 : Int32) = nI (2 ^ 1 - 1) from rfl, fa_mask]
  congr 1
  rw [Nat.testBit_eq_decide_div_mod_eq]
  have := Nat.mod_two_eq_zero_or_one (m / 2 ^ p)
  rcases this with h | h <;> simp [h]
theorem sr1_1 {m p : Nat} (hm : m < 2 ^ 31) (h : p < 31) : ((nI m >>> (nI p &&& 31)) &&& 1 = (1 : Int32)) ↔ m.testBit p = true := by
  rw [sr1 hm h]
  cases m.testBit p <;> simp <;> decide
theorem sr1_0 {m p : Nat} (hm : m < 2 ^ 31) (h : p < 31) : ((nI m >>> (nI p &&& 31)) &&& 1 = (0 : Int32)) ↔ m.testBit p = false := by
  rw [sr1 hm h]
  cases m.testBit p <;> simp <;> decide
/-- how many bits of k places -/
theorem msk_cnt {f : Nat → Bool} {n k : Nat} (h : n ≤ k) : fb_ct (fun i => (msk f n).testBit i) k = fb_ct f n := by
  have e : fb_ct (fun i => (msk f n).testBit i) k = fb_ct (fun i => decide (i < n) && f i) k := fb_ct_cong (fun i _ => msk_bit f n i)
  rw [e]
  obtain ⟨d, rfl⟩ : ∃ d, k = n + d := ⟨k - n, by omega⟩
  rw [fb_ct_split]
  have z : fb_ct (fun j => decide (n + j < n) && f (n + j)) d = 0 := fb_ct_zero.mpr (fun j _ => by simp; intro h9; omega)
  rw [z, Nat.add_zero]
  exact fb_ct_cong (fun i hi => by simp [hi])
/-! the model's small ones -/
theorem g_bits {m : Nat} (hm : m < 2 ^ 31) : f_X12_bits (nI m) = some (nI (fb_ct (fun i => m.testBit i) 13)) := by
  refine RT.eq ?_
  unfold f_X12_bits
  refine RT.loop0 (fun n i a => f_X12_bits_L4 (nI m) n a (nI i)) 13 (fun i a => a = nI (fb_ct (fun i => m.testBit i) i)) _ 0 (by omega) rfl ?_ ?_
  · intro n a ha
    show RT (f_X12_bits_L4 (nI m) (n + 1) a (nI 13)) _
    unfold f_X12_bits_L4
    exact RT.itT (by decide) (RT.ret ha)
  · intro n i a hi ha hk
    show RT (f_X12_bits_L4 (nI m) (n + 1) a (nI i)) _
    unfold f_X12_bits_L4
    refine RT.itF (show ¬ nI 12 < nI i from nI_nlt (by omega) (by omega)) (RT.bnd (RT.bnd ?_))
    rw [nI_1, sr1 hm (by omega), ha, nI_add]
    refine hk _ ?_
    rw [fb_ct_succ]
