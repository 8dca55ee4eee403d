/-! the reference's tokens -/
theorem lgc_iff {x y : Int64} : lg_cmp x y = 0 ↔ x = y := by
  unfold lg_cmp
  by_cases h : x > y
  · rw [if_pos h]
    refine ⟨fun e => absurd e (by decide), fun e => ?_⟩
    subst e
    exact absurd h (by simp)
  · rw [if_neg h]
    by_cases e : x = y
    · rw [if_pos e]; exact ⟨fun _ => e, fun _ => rfl⟩
    · rw [if_neg e]; exact ⟨fun z => absurd z (by decide), fun z => absurd z e⟩
theorem lN_eq6 {a b : Nat} (ha : a < 2 ^ 63) (hb : b < 2 ^ 63) : lN a = lN b ↔ a = b := by
  constructor
  · intro e
    have e1 := congrArg (fun x : Int64 => x.toBitVec.toNat) e
    rw [wb_tn (by omega), wb_tn (by omega)] at e1
    exact e1
  · intro e; rw [e]
/-- letters as one number -/
def wc (f : Nat → Nat) : Nat → Nat | 0 => 0 | i + 1 => 32 * wc f i + (f i - 96)
theorem wc_lt {f : Nat → Nat} : ∀ {m : Nat}, (∀ i, i < m → 97 ≤ f i ∧ f i ≤ 122) → wc f m < 32 ^ m
  | 0, _ => by rw [wc]; omega
  | m + 1, h => by
    have ih := wc_lt (f := f) (m := m) (fun i hi => h i (by omega))
    have := h m (by omega)
    rw [wc, Nat.pow_succ]
    omega
theorem wc_inj {f g : Nat → Nat} : ∀ {a b : Nat}, (∀ i, i < a → 97 ≤ f i ∧ f i ≤ 122) → (∀ i, i < b → 97 ≤ g i ∧ g i ≤ 122) → wc f a = wc g b → a = b ∧ ∀ i, i < a → f i = g i
  | 0, 0, _, _, _ => ⟨rfl, fun i hi => absurd hi (Nat.not_lt_zero _)⟩
  | 0, b + 1, _, hg, e => by
    have := hg b (by omega)
    rw [wc, wc] at e; omega
  | a + 1, 0, hf, _, e => by
    have := hf a (by omega)
    rw [wc, wc] at e; omega
  | a + 1, b + 1, hf, hg, e => by
    have h1 := hf a (by omega)
    have h2 := hg b (by omega)
    rw [wc, wc] at e
    obtain ⟨e1, e2⟩ := wc_inj (f := f) (g := g) (a := a) (b := b) (fun i hi => hf i (by omega)) (fun i hi => hg i (by omega)) (by omega)
    refine ⟨by omega, fun i hi => ?_⟩
    by_cases q : i = a
    · subst q
      subst e1
      omega
    · exact e2 i (by omega)
theorem wd_op {w c : Nat} (hw : w < 2 ^ 50) (h1 : 97 ≤ c) (h2 : c ≤ 122) : (lN w <<< ((5 : Int32).toInt64 &&& 63)) ||| (nI c - (96 : Int32)).toInt64 = lN (32 * w + (c - 96)) := by
  rw [show (5 : Int32) = nI 5 from rfl, wb_shl w (by omega), show (96 : Int32) = nI 96 from rfl, sx_sub (by omega), nI_l (by omega), show w * 2 ^ 5 = w * 32 from rfl, g_or (k := 5) (p := 32) rfl (by omega) (by omega), Nat.mul_comm w 32]
theorem w_letters : ∀ k, k < 16 → f_X12_letters (nI k) = some (lN (wc (wch k) (wl k))) := by decide +kernel
def TXm (X : TX) (M : MS) : Prop := M.1 12 = nI X.2 ∧ X.2 ≤ 700 ∧ ∀ i, i < X.2 → X.1 i < 256 ∧ M.2.2 3 i = nI (X.1 i)
def srt (k : Nat) : Nat := if k ≤ 2 then k else if k = 3 then 4 else 3
def wof (X : TX) (j : Nat) : Nat := wc (fun i => X.1 (ts X j + i)) (min (tl X j) 7)
def TM (X : TX) (M : MS) (j : Nat) : Prop := M.1 13 = nI (te X j) ∧ M.1 14 = nI (srt (tk X j)) ∧ M.1 15 = nI (ts X j) ∧ M.1 16 = nI (tl X j) ∧ (tk X j = 2 → M.1 17 = nI (tv X j)) ∧ (isSg (tk X j) = true → M.1 18 = nI (tk X j)) ∧ (tk X j = 1 → M.2.1 = lN (wof X j))
def TF (M r : MS) : Prop := (∀ k, (k < 13 ∨ 18 < k) → r.1 k = M.1 k) ∧ r.2.2 = M.2.2
theorem TF.refl (M : MS) : TF M M := ⟨fun _ _ => rfl, rfl⟩
theorem TF.trans {M r s : MS} (a : TF M r) (b : TF r s) : TF M s := ⟨fun k hk => (b.1 k hk).trans (a.1 k hk), b.2.trans a.2⟩
theorem TXm.tf {X : TX} {M r : MS} (x : TXm X M) (f : TF M r) : TXm X r := ⟨(f.1 12 (by omega)).trans x.1, x.2.1, fun i hi => ⟨(x.2.2 i hi).1, by rw [f.2]; exact (x.2.2 i hi).2⟩⟩
def bA_ (X : TX) (i : Nat) : Nat := if i < X.2 then X.1 i else 0
theorem bA_in {X : TX} {i : Nat} (h : i < X.2) : bA_ X i = X.1 i := if_pos h
theorem bA_lt {X : TX} {M : MS} (x : TXm X M) (i : Nat) : bA_ X i < 256 := by
  unfold bA_
  split
  · rename_i h; exact (x.2.2 i h).1
  · omega
theorem m_byteAt {X : TX} {M : MS} {i : Nat} (x : TXm X M) (hi : i ≤ 700) : f_X12_byteAt M (nI i) = some (nI (bA_ X i)) := by
  have hn := x.2.1
  unfold f_X12_byteAt bA_
  rw [x.1]
  by_cases h : i < X.2
  · rw [if_neg (nI_ge h (by omega)), sx_grd (by omega) (by omega), sx_clamp (by omega), if_pos h, (x.2.2 i h).2]
  · rw [if_pos (nI_le (by omega) (by omega)), if_neg h]; rfl
theorem m_isLetter {c : Nat} (h : c < 256) : f_X12_isLetter (nI c) = some (nI (if isLt c then 1 else 0)) := by
  unfold f_X12_isLetter
  rw [show (97 : Int32) = nI 97 from rfl, show (122 : Int32) = nI 122 from rfl]
  simp only [sx_lt (a := c) (b := 97) (by omega) (by omega), sx_lt (a := 122) (b := c) (by omega) (by omega)]
  unfold isLt
  by_cases h1 : c < 97
  · rw [if_pos h1, decide_eq_false (show ¬ 97 ≤ c by omega)]; rfl
  · rw [if_neg h1]
    by_cases h2 : 122 < c
    · rw [if_pos h2, decide_eq_false (show ¬ c ≤ 122 by omega), Bool.and_false]; rfl
    · rw [if_neg h2, decide_eq_true (show 97 ≤ c by omega), decide_eq_true (show c ≤ 122 by omega)]; rfl
theorem m_isDigit {c : Nat} (h : c < 256) : f_X12_isDigit (nI c) = some (nI (if isDg c then 1 else 0)) := by
  unfold f_X12_isDigit
  rw [show (48 : Int32) = nI 48 from rfl, show (57 : Int32) = nI 57 from rfl]
  simp only [sx_lt (a := c) (b := 48) (by omega) (by omega), sx_lt (a := 57) (b := c) (by omega) (by omega)]
  unfold isDg
  by_cases h1 : c < 48
  · rw [if_pos h1, decide_eq_false (show ¬ 48 ≤ c by omega)]; rfl
  · rw [if_neg h1]
    by_cases h2 : 57 < c
    · rw [if_pos h2, decide_eq_false (show ¬ c ≤ 57 by omega), Bool.and_false]; rfl
    · rw [if_neg h2, decide_eq_true (show 48 ≤ c by omega), decide_eq_true (show c ≤ 57 by omega)]; rfl
theorem bA_run {X : TX} {f : Nat → Bool} {p : Nat} (h0 : f 0 = false) (hp : p ≤ X.2) : f (bA_ X (rnF f X p)) = false := by
  unfold bA_
  split
  · rename_i h; exact rn_out h
  · exact h0
theorem sg_if {α : Type} {c : Nat} (hc : c < 256) (A B : α) : (if nI c = (59 : Int32) then A else if nI c = (40 : Int32) then A else if nI c = (41 : Int32) then A else if nI c = (43 : Int32) then A else if nI c = (45 : Int32) then A else if nI c = (42 : Int32) then A else if nI c = (47 : Int32) then A else if nI c = (60 : Int32) then A else if nI c = (61 : Int32) then A else B) = if isSg c = true then A else B := by
  by_cases h : isSg c = true
  · rw [if_pos h]
    unfold isSg at h
    simp only [Bool.or_eq_true, decide_eq_true_eq] at h
    rcases h with rfl | rfl | rfl | rfl | rfl | rfl | rfl | rfl | rfl <;> rfl
  · rw [if_neg h]
    have g : ∀ k, k < 256 → isSg k = true → ¬ nI c = nI k := fun k hk hs e => h (by rw [(nI_eq (by omega) (by omega)).mp e]; exact hs)
    rw [if_neg (show ¬ nI c = (59 : Int32) from g 59 (by omega) rfl), if_neg (show ¬ nI c = (40 : Int32) from g 40 (by omega) rfl), if_neg (show ¬ nI c = (41 : Int32) from g 41 (by omega) rfl), if_neg (show ¬ nI c = (43 : Int32) from g 43 (by omega) rfl), if_neg (show ¬ nI c = (45 : Int32) from g 45 (by omega) rfl), if_neg (show ¬ nI c = (42 : Int32) from g 42 (by omega) rfl), if_neg (show ¬ nI c = (47 : Int32) from g 47 (by omega) rfl), if_neg (show ¬ nI c = (60 : Int32) from g 60 (by omega) rfl), if_neg (show ¬ nI c = (61 : Int32) from g 61 (by omega) rfl)]
theorem m_takeW {X : TX} {y : MS} {j : Nat} (x : TXm X y) (k1 : tk X j = 1) (h13 : y.1 13 = nI (ts X j)) (h15 : y.1 15 = nI (ts X j)) (hw : y.2.1 = lN 0) : RT (f_X12_takes_L108 FUEL y) (fun r => TM X r j ∧ TF y r) := by
  refine RT.cps (fun Q hQ => ?_)
  have hn := x.2.1
  have sl := ts_le X j
  have tl9 := te_le X j
  have st9 := ts_te X j
  obtain ⟨_, w2, w3⟩ := tk_1 k1
  have lt : ∀ i, ts X j ≤ i → i < te X j → isLt (X.1 i) = true := fun i h1 h2 => rn_in h1 (by rw [← w3]; exact h2)
  refine RT.loop (fun k _ (a : MS) => f_X12_takes_L108 k a) (te X j) (fun i a => ts X j ≤ i ∧ a.1 13 = nI i ∧ (∀ k, k ≠ 13 → a.1 k = y.1 k) ∧ a.2.2 = y.2.2 ∧ a.2.1 = lN (wc (fun q => X.1 (ts X j + q)) (min (i - ts X j) 7))) Q ?_ ?_ FUEL (ts X j) y st9 (by unfold FUEL; omega) ⟨Nat.le_refl _, h13, fun _ _ => rfl, rfl, by rw [Nat.sub_self, hw]; rfl⟩
  · intro k i a hi ⟨a0, a1, a2, a3, a4⟩ hk
    show RT (f_X12_takes_L108 (k + 1) a) Q
    have xa : TXm X a := ⟨(a2 12 (by omega)).trans x.1, x.2.1, fun q hq => ⟨(x.2.2 q hq).1, by rw [a3]; exact (x.2.2 q hq).2⟩⟩
    have l := lt i a0 hi
    have ll := isLt_le l
    unfold f_X12_takes_L108
    rw [a1, m_byteAt xa (by omega), bA_in (show i < X.2 by omega), ob_some, m_isLetter (by omega), ob_some, if_pos l]
    refine RT.itF (show ¬ nI 1 = 0 by decide) ?_
    rw [a2 15 (by omega), h15, sx_sub a0]
    by_cases z : 7 ≤ i - ts X j
    · refine RT.itT (show nI 7 ≤ nI (i - ts X j) from nI_le z (by omega)) ?_
      rw [bnd_nr]
      refine hk _ ⟨by omega, ?_, fun q hq => ?_, a3, ?_⟩
      · show upd a.1 13 (nI i + 1) 13 = _
        rw [pk_us, nI_1]
      · show upd a.1 13 (nI i + 1) q = _
        rw [pk_un hq]; exact a2 q hq
      · show a.2.1 = _
        rw [a4, show min (i + 1 - ts X j) 7 = min (i - ts X j) 7 by omega]
    · refine RT.itF (show ¬ nI 7 ≤ nI (i - ts X j) from nI_ge (by omega) (by omega)) ?_
      have wl9 := wc_lt (f := fun q => X.1 (ts X j + q)) (m := min (i - ts X j) 7) (fun q hq => isLt_le (lt _ (by omega) (by omega)))
      have p7 : 32 ^ (min (i - ts X j) 7) ≤ 32 ^ 7 := Nat.pow_le_pow_right (by omega) (by omega)
      rw [ob_some, bnd_nr, bnd_nr, a4, wd_op (by omega) ll.1 ll.2]
      refine hk _ ⟨by omega, ?_, fun q hq => ?_, a3, ?_⟩
      · show upd a.1 13 (a.1 13 + 1) 13 = _
        rw [pk_us, a1, nI_1]
      · show upd a.1 13 (a.1 13 + 1) q = _
        rw [pk_un hq]; exact a2 q hq
      · show lN _ = _
        rw [show min (i + 1 - ts X j) 7 = min (i - ts X j) 7 + 1 by omega, wc, show ts X j + min (i - ts X j) 7 = i by omega]
  · intro k a ⟨a0, a1, a2, a3, a4⟩
    show RT (f_X12_takes_L108 (k + 1) a) Q
    have xa : TXm X a := ⟨(a2 12 (by omega)).trans x.1, x.2.1, fun q hq => ⟨(x.2.2 q hq).1, by rw [a3]; exact (x.2.2 q hq).2⟩⟩
    have nl : isLt (bA_ X (te X j)) = false := by rw [w3]; exact bA_run (f := isLt) rfl sl
    unfold f_X12_takes_L108
    rw [a1, m_byteAt xa (by omega), ob_some, m_isLetter (bA_lt xa _), ob_some, if_neg (show ¬ isLt (bA_ X (te X j)) = true by rw [nl]; decide)]
    refine RT.itT rfl ?_
    rw [bnd_nr, bnd_nr]
    refine RT.done hQ ⟨⟨?_, ?_, ?_, ?_, fun z => by omega, fun z => ?_, fun _ => ?_⟩, fun q hq => ?_, a3⟩
    · simp (disch := omega) only [pk_us, pk_un]; exact a1
    · simp (disch := omega) only [pk_us, pk_un]; rw [k1]; rfl
    · simp (disch := omega) only [pk_us, pk_un]; rw [a2 15 (by omega)]; exact h15
    · simp (disch := omega) only [pk_us, pk_un]; rw [a1, a2 15 (by omega), h15, sx_sub st9]; rfl
    · rw [k1] at z; exact absurd z (by decide)
    · exact a4
    · simp (disch := omega) only [pk_us, pk_un]; exact a2 q (by omega)
theorem m_takeN {X : TX} {y : MS} {j : Nat} (x : TXm X y) (k1 : tk X j = 2) (h13 : y.1 13 = nI (ts X j)) (h15 : y.1 15 = nI (ts X j)) (h17 : y.1 17 = 0) : RT (f_X12_takes_L187 FUEL y) (fun r => TM X r j ∧ TF y r) := by
  refine RT.cps (fun Q hQ => ?_)
  have hn := x.2.1
  have sl := ts_le X j
  have tl9 := te_le X j
  have st9 := ts_te X j
  obtain ⟨_, _, w2, w3⟩ := tk_2 k1
  have lt : ∀ i, ts X j ≤ i → i < te X j → isDg (X.1 i) = true := fun i h1 h2 => rn_in h1 (by rw [← w3]; exact h2)
  refine RT.loop (fun k _ (a : MS) => f_X12_takes_L187 k a) (te X j) (fun i a => ts X j ≤ i ∧ a.1 13 = nI i ∧ (∀ k, k ≠ 13 → k ≠ 17 → a.1 k = y.1 k) ∧ a.2 = y.2 ∧ a.1 17 = nI (nv X.1 (ts X j) (min (i - ts X j) 4))) Q ?_ ?_ FUEL (ts X j) y st9 (by unfold FUEL; omega) ⟨Nat.le_refl _, h13, fun _ _ _ => rfl, rfl, by rw [Nat.sub_self, h17]; rfl⟩
  · intro k i a hi ⟨a0, a1, a2, a3, a4⟩ hk
    show RT (f_X12_takes_L187 (k + 1) a) Q
    have xa : TXm X a := ⟨(a2 12 (by omega) (by omega)).trans x.1, x.2.1, fun q hq => ⟨(x.2.2 q hq).1, by rw [a3]; exact (x.2.2 q hq).2⟩⟩
    have l := lt i a0 hi
    have ll := isDg_le l
    unfold f_X12_takes_L187
    rw [a1, m_byteAt xa (by omega), bA_in (show i < X.2 by omega), ob_some, m_isDigit (by omega), ob_some, if_pos l]
    refine RT.itF (show ¬ nI 1 = 0 by decide) ?_
    rw [a2 15 (by omega) (by omega), h15, sx_sub a0]
    by_cases z : 4 ≤ i - ts X j
    · refine RT.itT (show nI 4 ≤ nI (i - ts X j) from nI_le z (by omega)) ?_
      rw [bnd_nr]
      refine hk _ ⟨by omega, ?_, fun q hq hq2 => ?_, a3, ?_⟩
      · show upd a.1 13 (nI i + 1) 13 = _
        rw [pk_us, nI_1]
      · show upd a.1 13 (nI i + 1) q = _
        rw [pk_un hq]; exact a2 q hq hq2
      · show upd a.1 13 (nI i + 1) 17 = _
        rw [pk_un (by omega), a4, show min (i + 1 - ts X j) 4 = min (i - ts X j) 4 by omega]
    · refine RT.itF (show ¬ nI 4 ≤ nI (i - ts X j) from nI_ge (by omega) (by omega)) ?_
      rw [ob_some, bnd_nr, bnd_nr, a4, show (10 : Int32) = nI 10 from rfl, pk_mul, nI_add, show (48 : Int32) = nI 48 from rfl, sx_sub (by omega)]
      refine hk _ ⟨by omega, ?_, fun q hq hq2 => ?_, a3, ?_⟩
      · simp (disch := omega) only [pk_us, pk_un]; rw [a1, nI_1]
      · simp (disch := omega) only [pk_us, pk_un]; exact a2 q hq hq2
      · simp (disch := omega) only [pk_us, pk_un]
        rw [show min (i + 1 - ts X j) 4 = min (i - ts X j) 4 + 1 by omega, nv, show ts X j + min (i - ts X j) 4 = i by omega]
        congr 1
        omega
  · intro k a ⟨a0, a1, a2, a3, a4⟩
    show RT (f_X12_takes_L187 (k + 1) a) Q
    have xa : TXm X a := ⟨(a2 12 (by omega) (by omega)).trans x.1, x.2.1, fun q hq => ⟨(x.2.2 q hq).1, by rw [a3]; exact (x.2.2 q hq).2⟩⟩
    have nl : isDg (bA_ X (te X j)) = false := by rw [w3]; exact bA_run (f := isDg) rfl sl
    unfold f_X12_takes_L187
    rw [a1, m_byteAt xa (by omega), ob_some, m_isDigit (bA_lt xa _), ob_some, if_neg (show ¬ isDg (bA_ X (te X j)) = true by rw [nl]; decide)]
    refine RT.itT rfl ?_
    rw [bnd_nr, bnd_nr]
    refine RT.done hQ ⟨⟨?_, ?_, ?_, ?_, fun z => ?_, fun z => ?_, fun z => by omega⟩, fun q hq => ?_, by rw [a3]⟩
    · simp (disch := omega) only [pk_us, pk_un]; exact a1
    · simp (disch := omega) only [pk_us, pk_un]; rw [k1]; rfl
    · simp (disch := omega) only [pk_us, pk_un]; rw [a2 15 (by omega) (by omega)]; exact h15
    · simp (disch := omega) only [pk_us, pk_un]; rw [a1, a2 15 (by omega) (by omega), h15, sx_sub st9]; rfl
    · simp (disch := omega) only [pk_us, pk_un]; exact a4
    · rw [k1] at z; exact absurd z (by decide)
    · simp (disch := omega) only [pk_us, pk_un]; exact a2 q (by omega) (by omega)
theorem m_take50 {X : TX} {a : MS} {j : Nat} (x : TXm X a) (h13 : a.1 13 = nI (ts X j)) : RT (f_X12_takes_J50 a) (fun r => TM X r j ∧ TF a r) := by
  refine RT.cps (fun Q hQ => ?_)
  have hn := x.2.1
  have sl := ts_le X j
  have tl9 := te_le X j
  unfold f_X12_takes_J50
  rw [bnd_nr, bnd_nr, bnd_nr]
  have x4 : TXm X ((upd (upd a.1 15 (a.1 13)) 17 0, (0 : Int64), a.2.2) : MS) := ⟨by simp (disch := omega) only [pk_us, pk_un]; exact x.1, x.2.1, x.2.2⟩
  have e13 : ((upd (upd a.1 15 (a.1 13)) 17 0, (0 : Int64), a.2.2) : MS).1 13 = nI (ts X j) := by simp (disch := omega) only [pk_us, pk_un]; exact h13
  show RT ((f_X12_byteAt ((upd (upd a.1 15 (a.1 13)) 17 0, (0 : Int64), a.2.2) : MS) (((upd (upd a.1 15 (a.1 13)) 17 0, (0 : Int64), a.2.2) : MS).1 13)).bind _) Q
  rw [e13, m_byteAt x4 (by omega), ob_some, bnd_nr]
  have y5 : TXm X ((upd (upd (upd a.1 15 (a.1 13)) 17 0) 18 (nI (bA_ X (ts X j))), (0 : Int64), a.2.2) : MS) := ⟨by simp (disch := omega) only [pk_us, pk_un]; exact x.1, x.2.1, x.2.2⟩
  have y13 : ((upd (upd (upd a.1 15 (a.1 13)) 17 0) 18 (nI (bA_ X (ts X j))), (0 : Int64), a.2.2) : MS).1 13 = nI (ts X j) := by simp (disch := omega) only [pk_us, pk_un]; exact h13
  have y15 : ((upd (upd (upd a.1 15 (a.1 13)) 17 0) 18 (nI (bA_ X (ts X j))), (0 : Int64), a.2.2) : MS).1 15 = nI (ts X j) := by simp (disch := omega) only [pk_us, pk_un]; exact h13
  have y17 : ((upd (upd (upd a.1 15 (a.1 13)) 17 0) 18 (nI (bA_ X (ts X j))), (0 : Int64), a.2.2) : MS).1 17 = 0 := by simp (disch := omega) only [pk_us, pk_un]
  have y18 : ((upd (upd (upd a.1 15 (a.1 13)) 17 0) 18 (nI (bA_ X (ts X j))), (0 : Int64), a.2.2) : MS).1 18 = nI (bA_ X (ts X j)) := by simp (disch := omega) only [pk_us, pk_un]
  have yf : TF a ((upd (upd (upd a.1 15 (a.1 13)) 17 0) 18 (nI (bA_ X (ts X j))), (0 : Int64), a.2.2) : MS) := ⟨fun k hk => by simp (disch := omega) only [pk_us, pk_un], rfl⟩
  have yw : ((upd (upd (upd a.1 15 (a.1 13)) 17 0) 18 (nI (bA_ X (ts X j))), (0 : Int64), a.2.2) : MS).2.1 = lN 0 := rfl
  show RT (if ((upd (upd (upd a.1 15 (a.1 13)) 17 0) 18 (nI (bA_ X (ts X j))), (0 : Int64), a.2.2) : MS).1 13 < ((upd (upd (upd a.1 15 (a.1 13)) 17 0) 18 (nI (bA_ X (ts X j))), (0 : Int64), a.2.2) : MS).1 12 then _ else _) Q
  generalize ((upd (upd (upd a.1 15 (a.1 13)) 17 0) 18 (nI (bA_ X (ts X j))), (0 : Int64), a.2.2) : MS) = y at *
  have bl := bA_lt y5 (ts X j)
  rw [y13, y5.1]
  by_cases k0 : tk X j = 0
  · have e := tk_0.mp k0
    refine RT.itF (nI_nlt (by omega) (by omega)) ?_
    rw [bnd_nr, bnd_nr]
    refine RT.done hQ ⟨⟨?_, ?_, ?_, ?_, fun z => by omega, fun z => ?_, fun z => by omega⟩, TF.trans yf ⟨fun q hq => ?_, rfl⟩⟩
    · simp (disch := omega) only [pk_us, pk_un]; rw [y13, te_end e, e]
    · simp (disch := omega) only [pk_us, pk_un]; rw [k0]; rfl
    · simp (disch := omega) only [pk_us, pk_un]; exact y15
    · simp (disch := omega) only [pk_us, pk_un]; rw [y13, y15, sx_sub (Nat.le_refl _)]; unfold tl; rw [te_end e, e]
    · rw [k0] at z; exact absurd z (by decide)
    · simp (disch := omega) only [pk_us, pk_un]
  · have sn : ts X j < X.2 := by
      rcases Nat.lt_or_ge (ts X j) X.2 with q | q
      · exact q
      · exact absurd (tk_0.mpr (by omega)) k0
    have bi := bA_in sn
    refine RT.itT (nI_lt sn (by omega)) ?_
    rw [m_isLetter bl, ob_some]
    by_cases k1 : tk X j = 1
    · obtain ⟨_, w2, w3⟩ := tk_1 k1
      rw [bi, if_pos w2]
      refine RT.itF (show ¬ nI 1 = 0 by decide) ?_
      exact RT.weak (m_takeW y5 k1 y13 y15 yw) (fun r ⟨r1, r2⟩ => hQ r ⟨r1, yf.trans r2⟩)
    · have nl : isLt (X.1 (ts X j)) = false := by
        by_cases k2 : tk X j = 2
        · exact (tk_2 k2).2.1
        · exact (tk_3 k0 k1 k2).2.1
      rw [if_neg (show ¬ isLt (bA_ X (ts X j)) = true by rw [bi, nl]; decide)]
      refine RT.itT rfl ?_
      rw [m_isDigit bl, ob_some]
      by_cases k2 : tk X j = 2
      · obtain ⟨_, _, w2, w3⟩ := tk_2 k2
        rw [bi, if_pos w2]
        refine RT.itF (show ¬ nI 1 = 0 by decide) ?_
        exact RT.weak (m_takeN y5 k2 y13 y15 y17) (fun r ⟨r1, r2⟩ => hQ r ⟨r1, yf.trans r2⟩)
      · obtain ⟨_, _, w2, w3, w4⟩ := tk_3 k0 k1 k2
        rw [if_neg (show ¬ isDg (bA_ X (ts X j)) = true by rw [bi, w2]; decide)]
        refine RT.itT rfl ?_
        simp only [bnd_nr]
        rw [sg_if bl, bi]
        rw [bi] at y18
        by_cases sg : isSg (X.1 (ts X j)) = true
        · rw [if_pos sg]
          rw [if_pos sg] at w4
          have g9 := isSg_ge sg
          refine RT.done hQ ⟨⟨?_, ?_, ?_, ?_, fun z => by omega, fun z => ?_, fun z => by omega⟩, TF.trans yf ⟨fun q hq => ?_, rfl⟩⟩
          · simp (disch := omega) only [pk_us, pk_un]; rw [w3]; exact nI_1 _
          · simp (disch := omega) only [pk_us, pk_un]; unfold srt; rw [if_neg (by omega), if_neg (by omega)]; rfl
          · simp (disch := omega) only [pk_us, pk_un]; exact y15
          · simp (disch := omega) only [pk_us, pk_un]; rw [y15, show nI (ts X j) + 1 = nI (ts X j + 1) from nI_1 _, sx_sub (by omega)]; unfold tl; rw [w3]
          · simp (disch := omega) only [pk_us, pk_un]; rw [y18, w4]
          · simp (disch := omega) only [pk_us, pk_un]
        · rw [if_neg sg]
          rw [if_neg sg] at w4
          refine RT.done hQ ⟨⟨?_, ?_, ?_, ?_, fun z => by omega, fun z => ?_, fun z => by omega⟩, TF.trans yf ⟨fun q hq => ?_, rfl⟩⟩
          · simp (disch := omega) only [pk_us, pk_un]; rw [w3]; exact nI_1 _
          · simp (disch := omega) only [pk_us, pk_un]; rw [w4]; rfl
          · simp (disch := omega) only [pk_us, pk_un]; exact y15
          · simp (disch := omega) only [pk_us, pk_un]; rw [y15, show nI (ts X j) + 1 = nI (ts X j + 1) from nI_1 _, sx_sub (by omega)]; unfold tl; rw [w3]
          · rw [w4] at z; exact absurd z (by decide)
          · simp (disch := omega) only [pk_us, pk_un]
theorem m_takes0 {X : TX} {M : MS} {j : Nat} (x : TXm X M) (h13 : M.1 13 = nI (pe X j)) : RT (f_X12_takes M) (fun r => TM X r j ∧ TF M r) := by
  refine RT.cps (fun Q hQ => ?_)
  have hn := x.2.1
  have sl := ts_le X j
  unfold f_X12_takes
  refine RT.loop (fun k _ (a : MS) => f_X12_takes_L0 k a) (ts X j) (fun i a => pe X j ≤ i ∧ a.1 13 = nI i ∧ (∀ k, k ≠ 13 → a.1 k = M.1 k) ∧ a.2 = M.2) Q ?_ ?_ FUEL (pe X j) _ (pe_ts X j) (by unfold FUEL; omega) ⟨Nat.le_refl _, h13, fun _ _ => rfl, rfl⟩
  · intro k i a hi ⟨ai, a6, ar, a2⟩ hk
    show RT (f_X12_takes_L0 (k + 1) a) Q
    have xa : TXm X a := ⟨(ar 12 (by omega)).trans x.1, x.2.1, fun q hq => ⟨(x.2.2 q hq).1, by rw [a2]; exact (x.2.2 q hq).2⟩⟩
    have sp := rn_in (f := isSp) (X := X) (p := pe X j) ai hi
    have b1 := (x.2.2 i (by omega)).1
    unfold isSp at sp
    simp only [Bool.or_eq_true, decide_eq_true_eq] at sp
    have nx9 : RT (f_X12_takes_L0 k ((upd a.1 13 (nI i + 1), a.2) : MS)) Q := by
      refine hk _ ⟨by omega, ?_, fun q hq => ?_, a2⟩
      · show upd a.1 13 (nI i + 1) 13 = _
        rw [pk_us, nI_1]
      · show upd a.1 13 (nI i + 1) q = _
        rw [pk_un hq]; exact ar q hq
    unfold f_X12_takes_L0
    rw [ar 12 (by omega), x.1, a6]
    refine RT.itF (nI_ge (by omega) (by omega)) ?_
    rw [m_byteAt xa (by omega), bA_in (show i < X.2 by omega), ob_some]
    refine RT.ite (fun e => ?_) (fun e => ?_)
    · rw [bnd_nr]; exact nx9
    · rw [ob_some]
      refine RT.itT ?_ ?_
      · rcases sp with s | s
        · exact absurd (show nI (X.1 i) = nI 32 by rw [s]) e
        · show nI (X.1 i) = nI 10
          rw [s]
      · rw [bnd_nr]; exact nx9
  · intro k a ⟨ai, a6, ar, a2⟩
    show RT (f_X12_takes_L0 (k + 1) a) Q
    have xa : TXm X a := ⟨(ar 12 (by omega)).trans x.1, x.2.1, fun q hq => ⟨(x.2.2 q hq).1, by rw [a2]; exact (x.2.2 q hq).2⟩⟩
    have fin : RT (f_X12_takes_J50 a) Q := RT.weak (m_take50 (j := j) xa a6) (fun r ⟨r1, r2⟩ => hQ r ⟨r1, TF.trans ⟨fun q hq => ar q (by omega), by rw [a2]⟩ r2⟩)
    unfold f_X12_takes_L0
    rw [ar 12 (by omega), x.1, a6]
    rcases Nat.lt_or_ge (ts X j) X.2 with q | q
    · have b1 := (x.2.2 _ q).1
      have ns := rn_out (f := isSp) (X := X) (p := pe X j) q
      change isSp (X.1 (ts X j)) = false at ns
      unfold isSp at ns
      simp only [Bool.or_eq_false_iff, decide_eq_false_iff_not] at ns
      refine RT.itF (nI_ge q (by omega)) ?_
      rw [m_byteAt xa (by omega), bA_in q, ob_some]
      refine RT.itF (fun e => ns.1 ((nI_eq (b := 32) (by omega) (by omega)).mp e)) ?_
      rw [ob_some]
      exact RT.itF (fun e => ns.2 ((nI_eq (b := 10) (by omega) (by omega)).mp e)) fin
    · exact RT.itT (nI_le q (by omega)) fin
theorem m_takes {X : TX} {M : MS} {j : Nat} (x : TXm X M) (t : TM X M j) : RT (f_X12_takes M) (fun r => TM X r (j + 1) ∧ TF M r) := m_takes0 (j := j + 1) x t.1
theorem srt_1 {X : TX} {j : Nat} : srt (tk X j) = 1 ↔ tk X j = 1 := by
  unfold srt
  split
  · exact Iff.rfl
  · split
    · omega
    · omega
theorem srt_2 {X : TX} {j : Nat} : srt (tk X j) = 2 ↔ tk X j = 2 := by
  unfold srt
  split
  · exact Iff.rfl
  · split
    · omega
    · omega
theorem srt_0 {X : TX} {j : Nat} : srt (tk X j) = 0 ↔ tk X j = 0 := by
  unfold srt
  split
  · exact Iff.rfl
  · split
    · omega
    · omega
theorem srt_le (k : Nat) : srt k ≤ 4 := by
  unfold srt
  split
  · omega
  · split <;> omega
theorem m_knownWord {X : TX} {M : MS} {j : Nat} (x : TXm X M) (t : TM X M j) : f_X12_knownWord M = some (if tw X j < 16 then nI (tw X j) else mO) := by
  refine RT.eq ?_
  refine RT.cps (fun Q hQ => ?_)
  have hn := x.2.1
  have te9 := te_le X j
  have st9 := srt_le (tk X j)
  have tl9 : tl X j ≤ 700 := by unfold tl; omega
  unfold f_X12_knownWord
  rw [t.2.1, t.2.2.2.1]
  by_cases k1 : tk X j = 1
  · refine RT.itT (by rw [srt_1.mpr k1]; rfl) ?_
    obtain ⟨_, w2, w3⟩ := tk_1 k1
    have lt : ∀ i, i < tl X j → 97 ≤ X.1 (ts X j + i) ∧ X.1 (ts X j + i) ≤ 122 := fun i h1 => isLt_le (rn_in (p := ts X j) (by omega) (by rw [← w3]; unfold tl at h1; omega))
    by_cases h7 : tl X j ≤ 7
    · refine RT.itT (show nI (tl X j) ≤ nI 7 from nI_le h7 (by omega)) ?_
      have hw := t.2.2.2.2.2.2 k1
      unfold wof at hw
      rw [show min (tl X j) 7 = tl X j by omega] at hw
      have wl9 := wc_lt (f := fun q => X.1 (ts X j + q)) (m := tl X j) lt
      have p7 : 32 ^ (tl X j) ≤ 32 ^ 7 := Nat.pow_le_pow_right (by omega) h7
      have key : ∀ k, k < 16 → (lg_cmp (lN (wc (wch k) (wl k))) M.2.1 = 0 ↔ wb X j k = true) := by
        intro k hk
        have l2 := wl_le k hk
        have wk := wc_lt (f := wch k) (m := wl k) (wch_lt k hk)
        have pk : 32 ^ (wl k) ≤ 32 ^ 7 := Nat.pow_le_pow_right (by omega) l2.2
        rw [lgc_iff, hw, lN_eq6 (by omega) (by omega), wb_iff]
        constructor
        · intro e
          obtain ⟨e1, e2⟩ := wc_inj (wch_lt k hk) lt e
          exact ⟨e1.symm, fun i hi => (e2 i hi).symm⟩
        · intro ⟨e1, e2⟩
          rw [e1]
          have : ∀ m, m ≤ wl k → wc (wch k) m = wc (fun q => X.1 (ts X j + q)) m := by
            intro m
            induction m with
            | zero => intro _; rfl
            | succ m ih =>
              intro hm
              rw [wc, wc, ih (by omega)]
              show _ = 32 * _ + (X.1 (ts X j + m) - 96)
              rw [e2 m (by omega)]
          exact this _ (Nat.le_refl _)
      refine RT.loop0 (fun n i (_ : Unit) => f_X12_knownWord_L21 M n (nI i)) 16 (fun i _ => ∀ m, m < i → wb X j m = false) Q () (by omega) (fun m hm => absurd hm (Nat.not_lt_zero _)) ?_ ?_
      · intro n _ h
        show RT (f_X12_knownWord_L21 M (n + 1) (nI 16)) Q
        unfold f_X12_knownWord_L21
        refine RT.itT (show nI 16 ≤ nI 16 from nI_le (by omega) (by omega)) (RT.done hQ ?_)
        rw [if_neg (fun e => ?_)]
        · rfl
        · have := ((tw_eq e).mp rfl).2
          rw [h _ e] at this; cases this
      · intro n i _ hi h hc
        show RT (f_X12_knownWord_L21 M (n + 1) (nI i)) Q
        unfold f_X12_knownWord_L21
        refine RT.itF (show ¬ nI 16 ≤ nI i from nI_ge hi (by omega)) ?_
        rw [w_letters i hi, ob_some]
        refine RT.ite (fun e => RT.done hQ ?_) (fun e => ?_)
        · have e2 := (tw_eq hi).mpr ⟨k1, (key i hi).mp e⟩
          rw [e2, if_pos hi]
        · rw [bnd_nr, nI_1]
          refine hc () (fun m hm => ?_)
          by_cases e9 : m = i
          · rw [e9]
            cases y : wb X j i
            · rfl
            · exact absurd ((key i hi).mpr y) e
          · exact h m (by omega)
    · refine RT.itF (show ¬ nI (tl X j) ≤ nI 7 from nI_ge (by omega) (by omega)) (RT.done hQ ?_)
      rw [if_neg (fun e => ?_)]
      · rfl
      · have := (wb_iff.mp ((tw_eq e).mp rfl).2).1
        have := wl_le _ e
        omega
  · refine RT.itF (fun e => k1 (srt_1.mp ((nI_eq (b := 1) (by omega) (by omega)).mp e))) (RT.done hQ ?_)
    rw [if_neg (fun e => k1 (tw_1 e))]
    rfl
theorem m_isSign {X : TX} {M : MS} {j c : Nat} (t : TM X M j) (hc : isSg c = true) : f_X12_isSign M (nI c) = some (nI (if tk X j = c then 1 else 0)) := by
  have g := isSg_ge hc
  have st9 := srt_le (tk X j)
  have tk9 := tk_lt X j
  unfold f_X12_isSign
  rw [t.2.1]
  by_cases h : isSg (tk X j) = true
  · have g2 := isSg_ge h
    rw [if_pos (show nI (srt (tk X j)) = 3 by unfold srt; rw [if_neg (by omega), if_neg (by omega)]; rfl), t.2.2.2.2.2.1 h]
    simp only [sx_eq (a := tk X j) (b := c) (by omega) (by omega)]
    by_cases e : tk X j = c
    · rw [if_pos e, if_pos e]; rfl
    · rw [if_neg e, if_neg e]; rfl
  · have ne9 : ¬ tk X j = c := fun e => h (by rw [e]; exact hc)
    rw [if_neg (fun e => ?_), if_neg ne9]
    · rfl
    · have e2 := (nI_eq (b := 3) (by omega) (by omega)).mp e
      unfold srt at e2
      rcases tk_cs X j with q | q | q | q | q
      · rw [q] at e2; exact absurd e2 (by decide)
      · rw [q] at e2; exact absurd e2 (by decide)
      · rw [q] at e2; exact absurd e2 (by decide)
      · rw [q] at e2; exact absurd e2 (by decide)
      · exact h q
