/-! running pure functions: all numbers as nI -/
theorem li_0 : (0 : Int32) = nI 0 := rfl
theorem li_1 : (1 : Int32) = nI 1 := rfl
theorem li_2 : (2 : Int32) = nI 2 := rfl
theorem li_3 : (3 : Int32) = nI 3 := rfl
theorem li_4 : (4 : Int32) = nI 4 := rfl
theorem li_5 : (5 : Int32) = nI 5 := rfl
theorem li_6 : (6 : Int32) = nI 6 := rfl
theorem li_7 : (7 : Int32) = nI 7 := rfl
theorem li_8 : (8 : Int32) = nI 8 := rfl
theorem li_9 : (9 : Int32) = nI 9 := rfl
theorem li_10 : (10 : Int32) = nI 10 := rfl
theorem li_11 : (11 : Int32) = nI 11 := rfl
theorem li_12 : (12 : Int32) = nI 12 := rfl
theorem li_13 : (13 : Int32) = nI 13 := rfl
theorem li_14 : (14 : Int32) = nI 14 := rfl
theorem li_15 : (15 : Int32) = nI 15 := rfl
theorem li_16 : (16 : Int32) = nI 16 := rfl
theorem li_17 : (17 : Int32) = nI 17 := rfl
theorem li_18 : (18 : Int32) = nI 18 := rfl
theorem li_19 : (19 : Int32) = nI 19 := rfl
theorem li_20 : (20 : Int32) = nI 20 := rfl
theorem li_21 : (21 : Int32) = nI 21 := rfl
theorem li_22 : (22 : Int32) = nI 22 := rfl
theorem li_23 : (23 : Int32) = nI 23 := rfl
theorem li_24 : (24 : Int32) = nI 24 := rfl
theorem li_25 : (25 : Int32) = nI 25 := rfl
theorem li_26 : (26 : Int32) = nI 26 := rfl
theorem li_27 : (27 : Int32) = nI 27 := rfl
theorem li_28 : (28 : Int32) = nI 28 := rfl
theorem li_29 : (29 : Int32) = nI 29 := rfl
theorem li_30 : (30 : Int32) = nI 30 := rfl
theorem li_31 : (31 : Int32) = nI 31 := rfl
theorem li_32 : (32 : Int32) = nI 32 := rfl
theorem li_33 : (33 : Int32) = nI 33 := rfl
theorem li_34 : (34 : Int32) = nI 34 := rfl
theorem li_35 : (35 : Int32) = nI 35 := rfl
theorem li_36 : (36 : Int32) = nI 36 := rfl
theorem li_37 : (37 : Int32) = nI 37 := rfl
theorem li_38 : (38 : Int32) = nI 38 := rfl
theorem li_39 : (39 : Int32) = nI 39 := rfl
theorem li_40 : (40 : Int32) = nI 40 := rfl
theorem li_41 : (41 : Int32) = nI 41 := rfl
theorem li_42 : (42 : Int32) = nI 42 := rfl
theorem li_43 : (43 : Int32) = nI 43 := rfl
theorem li_44 : (44 : Int32) = nI 44 := rfl
theorem li_45 : (45 : Int32) = nI 45 := rfl
theorem li_46 : (46 : Int32) = nI 46 := rfl
theorem li_47 : (47 : Int32) = nI 47 := rfl
theorem li_48 : (48 : Int32) = nI 48 := rfl
theorem li_49 : (49 : Int32) = nI 49 := rfl
theorem li_50 : (50 : Int32) = nI 50 := rfl
theorem li_51 : (51 : Int32) = nI 51 := rfl
theorem li_52 : (52 : Int32) = nI 52 := rfl
theorem li_53 : (53 : Int32) = nI 53 := rfl
theorem li_54 : (54 : Int32) = nI 54 := rfl
theorem li_55 : (55 : Int32) = nI 55 := rfl
theorem li_56 : (56 : Int32) = nI 56 := rfl
theorem li_57 : (57 : Int32) = nI 57 := rfl
theorem li_58 : (58 : Int32) = nI 58 := rfl
theorem li_59 : (59 : Int32) = nI 59 := rfl
theorem li_60 : (60 : Int32) = nI 60 := rfl
theorem li_61 : (61 : Int32) = nI 61 := rfl
theorem li_62 : (62 : Int32) = nI 62 := rfl
theorem li_63 : (63 : Int32) = nI 63 := rfl
theorem li_64 : (64 : Int32) = nI 64 := rfl
theorem li_74 : (74 : Int32) = nI 74 := rfl
theorem li_86 : (86 : Int32) = nI 86 := rfl
theorem li_96 : (96 : Int32) = nI 96 := rfl
theorem li_97 : (97 : Int32) = nI 97 := rfl
theorem li_98 : (98 : Int32) = nI 98 := rfl
theorem li_99 : (99 : Int32) = nI 99 := rfl
theorem li_100 : (100 : Int32) = nI 100 := rfl
theorem li_121 : (121 : Int32) = nI 121 := rfl
theorem li_122 : (122 : Int32) = nI 122 := rfl
theorem li_200 : (200 : Int32) = nI 200 := rfl
theorem li_201 : (201 : Int32) = nI 201 := rfl
theorem li_255 : (255 : Int32) = nI 255 := rfl
theorem li_700 : (700 : Int32) = nI 700 := rfl
theorem li_950 : (950 : Int32) = nI 950 := rfl
theorem li_1000 : (1000 : Int32) = nI 1000 := rfl
theorem li_1400 : (1400 : Int32) = nI 1400 := rfl
theorem li_3440 : (3440 : Int32) = nI 3440 := rfl
theorem li_4096 : (4096 : Int32) = nI 4096 := rfl
theorem li_9999 : (9999 : Int32) = nI 9999 := rfl
theorem li_10000 : (10000 : Int32) = nI 10000 := rfl
theorem li_12345 : (12345 : Int32) = nI 12345 := rfl
theorem li_20000 : (20000 : Int32) = nI 20000 := rfl
theorem li_20033 : (20033 : Int32) = nI 20033 := rfl
theorem li_20038 : (20038 : Int32) = nI 20038 := rfl
theorem li_20124 : (20124 : Int32) = nI 20124 := rfl
theorem li_32767 : (32767 : Int32) = nI 32767 := rfl
theorem li_65535 : (65535 : Int32) = nI 65535 := rfl
theorem li_1103515245 : (1103515245 : Int32) = nI 1103515245 := rfl
theorem li_87 : (87 : Int32) = nI 87 := rfl
theorem li_88 : (88 : Int32) = nI 88 := rfl
theorem li_101 : (101 : Int32) = nI 101 := rfl
theorem li_102 : (102 : Int32) = nI 102 := rfl
theorem li_103 : (103 : Int32) = nI 103 := rfl
theorem li_104 : (104 : Int32) = nI 104 := rfl
theorem li_105 : (105 : Int32) = nI 105 := rfl
theorem li_107 : (107 : Int32) = nI 107 := rfl
theorem li_108 : (108 : Int32) = nI 108 := rfl
theorem li_109 : (109 : Int32) = nI 109 := rfl
theorem li_110 : (110 : Int32) = nI 110 := rfl
theorem li_111 : (111 : Int32) = nI 111 := rfl
theorem li_112 : (112 : Int32) = nI 112 := rfl
theorem li_114 : (114 : Int32) = nI 114 := rfl
theorem li_115 : (115 : Int32) = nI 115 := rfl
theorem li_116 : (116 : Int32) = nI 116 := rfl
theorem li_117 : (117 : Int32) = nI 117 := rfl
theorem li_118 : (118 : Int32) = nI 118 := rfl
theorem li_124 : (124 : Int32) = nI 124 := rfl
theorem li_136 : (136 : Int32) = nI 136 := rfl
theorem li_148 : (148 : Int32) = nI 148 := rfl
theorem li_160 : (160 : Int32) = nI 160 := rfl
theorem li_680 : (680 : Int32) = nI 680 := rfl
def mO : Int32 := -1
theorem li_m : -(nI 1) = mO := rfl
theorem mO_eq : (-1 : Int32) = mO := rfl
theorem sx_grd {α : Type} {k N : Nat} {o : Option α} (h : k < N) (hN : N < 2147483648) : grd (vi (nI k) N) o = o := by rw [vi_n h hN]; rfl
theorem sx_clamp {k : Nat} (h : k < 2147483648) : (nI k).toNatClampNeg = k := nI_clamp h
theorem sx_le {a b : Nat} (ha : a < 2147483648) (hb : b < 2147483648) : (nI a ≤ nI b) = (a ≤ b) := propext (nI_leI ha hb)
theorem sx_lt {a b : Nat} (ha : a < 2147483648) (hb : b < 2147483648) : (nI a < nI b) = (a < b) := propext (nI_ltI ha hb)
theorem sx_eq {a b : Nat} (ha : a < 2147483648) (hb : b < 2147483648) : (nI a = nI b) = (a = b) := propext (nI_eq ha hb)
theorem sx_sub {a b : Nat} (h : b ≤ a) : nI a - nI b = nI (a - b) := pk_sub h
theorem mO_toInt : mO.toInt = -1 := by decide
theorem sx_eqm {a : Nat} (h : a < 2147483648) : (nI a = mO) = False := by
  rw [eq_iff_iff, iff_false]
  intro e
  have e1 := congrArg Int32.toInt e
  rw [nI_toInt h, mO_toInt] at e1
  omega
theorem sx_meq {a : Nat} (h : a < 2147483648) : (mO = nI a) = False := by
  rw [eq_iff_iff, iff_false]
  intro e
  have e1 := congrArg Int32.toInt e
  rw [nI_toInt h, mO_toInt] at e1
  omega
theorem sx_lem {a : Nat} (h : a < 2147483648) : (nI a ≤ mO) = False := by
  rw [eq_iff_iff, iff_false, Int32.le_iff_toInt_le, nI_toInt h, mO_toInt]
  omega
theorem sx_mle {a : Nat} (h : a < 2147483648) : (mO ≤ nI a) = True := by
  rw [eq_iff_iff, iff_true, Int32.le_iff_toInt_le, nI_toInt h, mO_toInt]
  omega
theorem sx_ltm {a : Nat} (h : a < 2147483648) : (nI a < mO) = False := by
  rw [eq_iff_iff, iff_false, Int32.lt_iff_toInt_lt, nI_toInt h, mO_toInt]
  omega
theorem sx_mlt {a : Nat} (h : a < 2147483648) : (mO < nI a) = True := by
  rw [eq_iff_iff, iff_true, Int32.lt_iff_toInt_lt, nI_toInt h, mO_toInt]
  omega
theorem sx_addm {a : Nat} (h : 1 ≤ a) : nI a + mO = nI (a - 1) := by
  obtain ⟨c, rfl⟩ : ∃ c, a = c + 1 := ⟨a - 1, by omega⟩
  exact pk_m1 c
theorem sx_shl {p : Nat} (h : p < 31) : nI 1 <<< (nI p &&& nI 31) = nI (2 ^ p) := sh1 h
theorem sx_shlN {m p : Nat} (h : p < 31) (h2 : m * 2 ^ p < 2147483648) : nI m <<< (nI p &&& nI 31) = nI (m * 2 ^ p) := pk_shlN (nI p &&& nI 31) p (s_l p (by omega)) (by omega)
theorem sx_bit1 {m p : Nat} (hm : m < 2147483648) (h : p < 31) : ((nI m >>> (nI p &&& nI 31)) &&& nI 1 = nI 1) = (m.testBit p = true) := propext (sr1_1 hm h)
theorem sx_bit0 {m p : Nat} (hm : m < 2147483648) (h : p < 31) : ((nI m >>> (nI p &&& nI 31)) &&& nI 1 = nI 0) = (m.testBit p = false) := propext (sr1_0 hm h)
theorem sx_bit {m p : Nat} (hm : m < 2147483648) (h : p < 31) : (nI m >>> (nI p &&& nI 31)) &&& nI 1 = nI (if m.testBit p then 1 else 0) := sr1 hm h
theorem sx_uA {A : Nat → Nat → Int32} {j k : Nat} {F : Nat → Int32} {x : Int32} : uA (sA A j F) j k x = sA A j (upd F k x) := by
  funext q
  unfold uA sA
  by_cases c : q = j <;> simp [c]
theorem sx_uAn {A : Nat → Nat → Int32} {i j k : Nat} {F : Nat → Int32} {x : Int32} (h : i ≠ j) : uA (sA A j F) i k x = sA (uA A i k x) j F := by
  funext q
  unfold uA sA
  by_cases c : q = j
  · subst c; simp [h.symm]
  · by_cases d : q = i <;> simp [c, d, h]
theorem sx_sAs {A : Nat → Nat → Int32} {j : Nat} {F G : Nat → Int32} : sA (sA A j F) j G = sA A j G := by
  funext q
  unfold sA
  by_cases c : q = j <;> simp [c]
theorem sA_self {A : Nat → Nat → Int32} {j : Nat} : sA A j (A j) = A := by
  funext q
  unfold sA
  by_cases c : q = j <;> simp [c]
theorem uA_sA {A : Nat → Nat → Int32} {j k : Nat} {x : Int32} : uA A j k x = sA A j (upd (A j) k x) := rfl
/-! one row of numbers of the reference -/
def rowf (f : Nat → Int32) (b : Nat) (X : Nat → Nat → Int32) : Nat → Int32 := fun k => if k < b ∨ b + 86 ≤ k then f k else if k < b + 2 then X 0 (k - b) else X ((k - b - 2) / 12 + 1) ((k - b - 2) % 12)
def rx (f : Nat → Int32) (b : Nat) : Nat → Nat → Int32 := fun j i => if j = 0 then f (b + i) else f (b + 2 + 12 * (j - 1) + i)
theorem rowf_self (f : Nat → Int32) (b : Nat) : rowf f b (rx f b) = f := by
  funext k
  unfold rowf rx
  by_cases c : k < b ∨ b + 86 ≤ k
  · rw [if_pos c]
  · rw [if_neg c]
    by_cases d : k < b + 2
    · rw [if_pos d, if_pos rfl]; congr 1; omega
    · rw [if_neg d, if_neg (by omega)]; congr 1; omega
theorem rowf_out {f : Nat → Int32} {b k : Nat} {X : Nat → Nat → Int32} (h : k < b ∨ b + 86 ≤ k) : rowf f b X k = f k := if_pos h
theorem rowf_r {f : Nat → Int32} {b : Nat} {X : Nat → Nat → Int32} (j : Nat) {i : Nat} (hj : j < 7) (hi : i < 12) : rowf f b X (b + 2 + 12 * j + i) = X (j + 1) i := by
  unfold rowf
  rw [if_neg (by omega), if_neg (by omega)]
  congr 1
  · omega
  · omega
theorem rowf_00 {f : Nat → Int32} {b : Nat} {X : Nat → Nat → Int32} : rowf f b X b = X 0 0 := by
  unfold rowf
  rw [if_neg (by omega), if_pos (by omega)]
  congr 1; omega
theorem rowf_01 {f : Nat → Int32} {b : Nat} {X : Nat → Nat → Int32} : rowf f b X (b + 1) = X 0 1 := by
  unfold rowf
  rw [if_neg (by omega), if_pos (by omega)]
  congr 1; omega
theorem rowf_2 {f : Nat → Int32} {b i : Nat} {X : Nat → Nat → Int32} (h : i < 12) : rowf f b X (b + 2 + i) = X 1 i := rowf_r 0 (by omega) h
theorem rowf_14 {f : Nat → Int32} {b i : Nat} {X : Nat → Nat → Int32} (h : i < 12) : rowf f b X (b + 14 + i) = X 2 i := rowf_r 1 (by omega) h
theorem rowf_26 {f : Nat → Int32} {b i : Nat} {X : Nat → Nat → Int32} (h : i < 12) : rowf f b X (b + 26 + i) = X 3 i := rowf_r 2 (by omega) h
theorem rowf_38 {f : Nat → Int32} {b i : Nat} {X : Nat → Nat → Int32} (h : i < 12) : rowf f b X (b + 38 + i) = X 4 i := rowf_r 3 (by omega) h
theorem rowf_50 {f : Nat → Int32} {b i : Nat} {X : Nat → Nat → Int32} (h : i < 12) : rowf f b X (b + 50 + i) = X 5 i := rowf_r 4 (by omega) h
theorem rowf_62 {f : Nat → Int32} {b i : Nat} {X : Nat → Nat → Int32} (h : i < 12) : rowf f b X (b + 62 + i) = X 6 i := rowf_r 5 (by omega) h
theorem rowf_74 {f : Nat → Int32} {b i : Nat} {X : Nat → Nat → Int32} (h : i < 12) : rowf f b X (b + 74 + i) = X 7 i := rowf_r 6 (by omega) h
theorem rowf_ur {f : Nat → Int32} {b : Nat} {X : Nat → Nat → Int32} {x : Int32} (j : Nat) {i : Nat} (hj : j < 7) (hi : i < 12) : upd (rowf f b X) (b + 2 + 12 * j + i) x = rowf f b (uA X (j + 1) i x) := by
  funext k
  by_cases e : k = b + 2 + 12 * j + i
  · rw [e, pk_us, rowf_r j hj hi, uA_ss]
  · rw [pk_un e]
    unfold rowf
    by_cases c : k < b ∨ b + 86 ≤ k
    · rw [if_pos c, if_pos c]
    · rw [if_neg c, if_neg c]
      by_cases d : k < b + 2
      · rw [if_pos d, if_pos d, uA_n (by omega)]
      · rw [if_neg d, if_neg d]
        by_cases g : (k - b - 2) / 12 = j
        · rw [g, uA_sn (by omega)]
        · rw [uA_n (by omega)]
theorem rowf_u0 {f : Nat → Int32} {b : Nat} {X : Nat → Nat → Int32} {x : Int32} {i : Nat} (hi : i < 2) : upd (rowf f b X) (b + i) x = rowf f b (uA X 0 i x) := by
  funext k
  by_cases e : k = b + i
  · rw [e, pk_us]
    unfold rowf
    rw [if_neg (by omega), if_pos (by omega), show b + i - b = i by omega, uA_ss]
  · rw [pk_un e]
    unfold rowf
    by_cases c : k < b ∨ b + 86 ≤ k
    · rw [if_pos c, if_pos c]
    · rw [if_neg c, if_neg c]
      by_cases d : k < b + 2
      · rw [if_pos d, if_pos d, uA_sn (by omega)]
      · rw [if_neg d, if_neg d, uA_n (by omega)]
theorem rowf_u00 {f : Nat → Int32} {b : Nat} {X : Nat → Nat → Int32} {x : Int32} : upd (rowf f b X) b x = rowf f b (uA X 0 0 x) := rowf_u0 (i := 0) (by omega)
theorem rowf_u01 {f : Nat → Int32} {b : Nat} {X : Nat → Nat → Int32} {x : Int32} : upd (rowf f b X) (b + 1) x = rowf f b (uA X 0 1 x) := rowf_u0 (by omega)
theorem rowf_u2 {f : Nat → Int32} {b i : Nat} {X : Nat → Nat → Int32} {x : Int32} (h : i < 12) : upd (rowf f b X) (b + 2 + i) x = rowf f b (uA X 1 i x) := rowf_ur 0 (by omega) h
theorem rowf_u14 {f : Nat → Int32} {b i : Nat} {X : Nat → Nat → Int32} {x : Int32} (h : i < 12) : upd (rowf f b X) (b + 14 + i) x = rowf f b (uA X 2 i x) := rowf_ur 1 (by omega) h
theorem rowf_u26 {f : Nat → Int32} {b i : Nat} {X : Nat → Nat → Int32} {x : Int32} (h : i < 12) : upd (rowf f b X) (b + 26 + i) x = rowf f b (uA X 3 i x) := rowf_ur 2 (by omega) h
theorem rowf_u38 {f : Nat → Int32} {b i : Nat} {X : Nat → Nat → Int32} {x : Int32} (h : i < 12) : upd (rowf f b X) (b + 38 + i) x = rowf f b (uA X 4 i x) := rowf_ur 3 (by omega) h
theorem rowf_u50 {f : Nat → Int32} {b i : Nat} {X : Nat → Nat → Int32} {x : Int32} (h : i < 12) : upd (rowf f b X) (b + 50 + i) x = rowf f b (uA X 5 i x) := rowf_ur 4 (by omega) h
theorem rowf_u62 {f : Nat → Int32} {b i : Nat} {X : Nat → Nat → Int32} {x : Int32} (h : i < 12) : upd (rowf f b X) (b + 62 + i) x = rowf f b (uA X 6 i x) := rowf_ur 5 (by omega) h
theorem rowf_u74 {f : Nat → Int32} {b i : Nat} {X : Nat → Nat → Int32} {x : Int32} (h : i < 12) : upd (rowf f b X) (b + 74 + i) x = rowf f b (uA X 7 i x) := rowf_ur 6 (by omega) h
/-- a row's fields are V -/
def XP (X : Nat → Nat → Int32) (V : VT) : Prop := (X 0 0 = nI (ve V) ∧ X 0 1 = nI (vh V)) ∧ (∀ p, p < vn V → X 1 p = nI (ho V p) ∧ X 2 p = nI (pl V p) ∧ X 3 p = nI (si V p) ∧ X 4 p = mv V p ∧ X 5 p = nI (rk V p)) ∧ ∀ h, h < vh V → X 6 h = nI (ol V h) ∧ X 7 h = idd V h
theorem XP_iff {f : Nat → Int32} {b : Nat} {X : Nat → Nat → Int32} {V : VT} (hn : vn V ≤ 12) (hh : vh V ≤ 12) : RW (rowf f b X) b V ↔ XP X V := by
  unfold RW XP
  rw [Nat.add_zero, rowf_00, rowf_01]
  constructor
  · intro ⟨h1, h2, h3⟩
    refine ⟨h1, fun p hp => ?_, fun h hh9 => ?_⟩
    · have := h2 p hp
      rw [rowf_2 (by omega), rowf_14 (by omega), rowf_26 (by omega), rowf_38 (by omega), rowf_50 (by omega)] at this
      exact this
    · have := h3 h hh9
      rw [rowf_62 (by omega), rowf_74 (by omega)] at this
      exact this
  · intro ⟨h1, h2, h3⟩
    refine ⟨h1, fun p hp => ?_, fun h hh9 => ?_⟩
    · rw [rowf_2 (by omega), rowf_14 (by omega), rowf_26 (by omega), rowf_38 (by omega), rowf_50 (by omega)]
      exact h2 p hp
    · rw [rowf_62 (by omega), rowf_74 (by omega)]
      exact h3 h hh9
theorem RT.cps {α : Type} {Q : α → Prop} {o : Option α} (h : ∀ Q' : α → Prop, (∀ r, Q r → Q' r) → RT o Q') : RT o Q := h Q (fun _ x => x)
theorem RT.done {α : Type} {Q P : α → Prop} {r : α} (h : ∀ r, P r → Q r) (p : P r) : RT (some r) Q := ⟨r, rfl, h r p⟩
theorem bnd_nr {α β : Type} (x : α) (k : α → β) : bnd x k = k x := Eq.trans rfl rfl
theorem ob_some {α β : Type} (x : α) (k : α → Option β) : (some x).bind k = k x := Eq.trans rfl rfl
