/-! the game of two -/
theorem FM.qf {M r : MS} {F : FD} (h : FM M F) (q : QF M r) : FM r F := FM_of (q.1 2 (by decide)) (q.2.2.1 1 (by omega) (by decide)) h
def hmk (i j a b : Nat) : Nat := (a * 2 ^ i) ||| (b * 2 ^ j)
def W6 (E : RE) (U : VT) (H : Nat) : VT := It E (evV (goB E H.testBit U) U) 5
def gnV (F : FD) (W : VT) (p : Nat) : Nat := sz W (ho W p) + pcn (cpN W p &&& foM F p)
theorem pw11 : ∀ i, i ≤ 11 → 2 ^ i ≤ 2048 := by decide
theorem mul1 {a b : Nat} (h : a ≤ 1) : a * b ≤ b := by
  rcases Nat.lt_or_ge a 1 with z | z
  · rw [show a = 0 by omega]; omega
  · rw [show a = 1 by omega]; omega
theorem hmk_lt {i j a b : Nat} (hi : i < 12) (hj : j < 12) (ha : a ≤ 1) (hb : b ≤ 1) : hmk i j a b < 4096 := by
  have e1 := pw11 i (by omega)
  have e2 := pw11 j (by omega)
  have e3 := mul1 (b := 2 ^ i) ha
  have e4 := mul1 (b := 2 ^ j) hb
  exact Nat.or_lt_two_pow (n := 12) (by omega) (by omega)
theorem hmk_i {i j a b : Nat} (hi : i < 12) (hj : j < 12) (ha : a ≤ 1) (hb : b ≤ 1) : (nI a <<< (nI i &&& nI 31)) ||| (nI b <<< (nI j &&& nI 31)) = nI (hmk i j a b) := by
  have e1 := pw11 i (by omega)
  have e2 := pw11 j (by omega)
  have e3 := mul1 (b := 2 ^ i) ha
  have e4 := mul1 (b := 2 ^ j) hb
  rw [sx_shlN (by omega) (by omega), sx_shlN (by omega) (by omega), fa_or]; rfl
theorem hmk_c (i j a b : Nat) : hmk j i b a = hmk i j a b := Nat.or_comm _ _
theorem W6_wf {E : RE} {U : VT} {H : Nat} (cw : CW E U) : WFV (W6 E U H) ∧ vn (W6 E U H) = vn U := by
  have e9 := cw.2.1
  have w1 := WFV_ev cw.1 (GOK_go (E := E) (H := H.testBit) cw.1.1) (by omega)
  have h := It_wf (E := E) w1 5 (by show ve U + 1 + 5 ≤ 20000; omega)
  exact ⟨h.1, h.2.2⟩
theorem gnV_bd {F : FD} {W : VT} {p : Nat} (w : WFV W) (hp : p < vn W) : 1 ≤ gnV F W p ∧ gnV F W p ≤ 30 := by
  have h1 := sz_pos hp
  have h2 := sz_le W (ho W p)
  have h3 := w.1.1
  have h4 := pcn_le (cpN W p &&& foM F p)
  unfold gnV
  omega
theorem c_gainOf {F : FD} {W : VT} {v D Rp Rk T K f : Ob} {p n0 : Nat} (c : VC T W) (w : WFV W) (fc : FC f F) (fk : FOK F n0) (h12 : n0 ≤ 12) (hp : p < vn W) : f_X9_gainOf v D Rp Rk T K f (nI p) = some (nI (gnV F W p)) := by
  have b0 := w.1.1
  have hb := (w.1.2.1 p hp).1
  have lt := cpN_lt (V := W) (p := p)
  have p12 : 2 ^ vn W ≤ 2 ^ 12 := Nat.pow_le_pow_right (by omega) b0.1
  have la : cpN W p &&& foM F p < 8192 := Nat.lt_of_le_of_lt Nat.and_le_left (by omega)
  unfold f_X9_gainOf
  rw [c_companions c w.1 hp, ob_some, sx_grd (by omega) (by omega), sx_clamp (by omega), c.h p hp, sx_grd (by omega) (by omega), sx_clamp (by omega), c.z _ hb, c_of fc fk h12 (by omega), ob_some, fa_and, j_bitCount la, ob_some, nI_add]
  rfl
theorem c_pass6 {E : RE} {U : VT} {D Rp Rk T : Ob} {H : Nat} (c : VC T U) (cw : CW E U) (h1 : RCo Rp E.1) (h2 : RCo Rk E.2) (hH : H < 4096) : RT (f_X2_pass D Rp Rk T (nI H)) (fun q => RCo q.2.2.1 E.1 ∧ RCo q.2.2.2.1 E.2 ∧ VC q.2.2.2.2 (evV (goB E H.testBit U) U)) := (c_pass c cw.1 cw.2.2 h1 h2 (by omega) (by have := cw.2.1; omega)).weak (fun q ⟨_, a, b, d⟩ => ⟨a, b, d⟩)
theorem sh1_4 : ∀ l, l < 4 → nI l >>> ((1 : Int32) &&& 31) = nI (l / 2) := by decide
theorem an1_4 : ∀ l, l < 4 → nI l &&& (1 : Int32) = nI (l % 2) := by decide
theorem xo2_4 : ∀ l, l < 4 → nI l ^^^ (2 : Int32) = nI (2 * (1 - l / 2) + l % 2) := by decide
theorem xo1_4 : ∀ l, l < 4 → nI l ^^^ (1 : Int32) = nI (2 * (l / 2) + (1 - l % 2)) := by decide
theorem dv2_4 : ∀ l, l < 4 → nI l / (2 : Int32) = nI (l / 2) := by decide
theorem rm2_4 : ∀ l, l < 4 → nI l - nI l / (2 : Int32) * (2 : Int32) = nI (l % 2) := by decide
/-- what each has at l -/
def gA (E : RE) (F : FD) (U : VT) (i j l : Nat) : Nat := gnV F (W6 E U (hmk i j (l / 2) (l % 2))) i - l / 2
def gB (E : RE) (F : FD) (U : VT) (i j l : Nat) : Nat := gnV F (W6 E U (hmk i j (l / 2) (l % 2))) j - l % 2
theorem gA_le {E : RE} {F : FD} {U : VT} {i j l : Nat} (cw : CW E U) (hi : i < vn U) : gA E F U i j l ≤ 30 := by
  obtain ⟨w, n⟩ := W6_wf (H := hmk i j (l / 2) (l % 2)) cw
  have := gnV_bd (F := F) w (p := i) (by omega)
  unfold gA; omega
theorem gB_le {E : RE} {F : FD} {U : VT} {i j l : Nat} (cw : CW E U) (hj : j < vn U) : gB E F U i j l ≤ 30 := by
  obtain ⟨w, n⟩ := W6_wf (H := hmk i j (l / 2) (l % 2)) cw
  have := gnV_bd (F := F) w (p := j) (by omega)
  unfold gB; omega
def PLD (E : RE) (F : FD) (U : VT) (i j : Nat) (z : Ob) (l : Nat) : Prop := ∀ k, k < l → z.2 2 k = nI (gA E F U i j k) ∧ z.2 3 k = nI (gB E F U i j k)
theorem c_play {E : RE} {F : FD} {U : VT} {v D Rp Rk T K N0 f : Ob} {i j n0 : Nat} (c : VC N0 U) (cw : CW E U) (h1 : RCo Rp E.1) (h2 : RCo Rk E.2) (fc : FC f F) (fk : FOK F n0) (h12 : n0 ≤ 12) (hi : i < vn U) (hj : j < vn U) : RT (f_X9_play v D Rp Rk T K N0 f (nI i) (nI j)) (fun q => PLD E F U i j q.1 4 ∧ RCo q.2.2.1 E.1 ∧ RCo q.2.2.2.1 E.2) := by
  refine RT.cps (fun Q hQ => ?_)
  have b0 := cw.1.1.1
  unfold f_X9_play
  refine RT.loop0 (fun n l (y : Ob × Ob × Ob × Ob × Ob) => f_X9_play_L3 (nI i) (nI j) K N0 f n (nI l) y.1 y.2.1 y.2.2.1 y.2.2.2.1 y.2.2.2.2) 4 (fun l y => PLD E F U i j y.1 l ∧ RCo y.2.2.1 E.1 ∧ RCo y.2.2.2.1 E.2) Q (v, D, Rp, Rk, T) (by omega) ⟨fun k hk => absurd hk (Nat.not_lt_zero _), h1, h2⟩ ?_ ?_
  · intro n ⟨yv, yD, yP, yK, yT⟩ ⟨y1, y2, y3⟩
    show RT (f_X9_play_L3 (nI i) (nI j) K N0 f (n + 1) (nI 4) yv yD yP yK yT) _
    unfold f_X9_play_L3
    exact RT.itT (show nI 4 ≤ nI 4 from by decide) (RT.done hQ ⟨y1, y2, y3⟩)
  · intro n l ⟨yv, yD, yP, yK, yT⟩ hl ⟨y1, y2, y3⟩ hk
    show RT (f_X9_play_L3 (nI i) (nI j) K N0 f (n + 1) (nI l) yv yD yP yK yT) _
    dsimp only at y1 y2 y3
    unfold f_X9_play_L3
    refine RT.itF (show ¬ nI 4 ≤ nI l from nI_ge (by omega) (by omega)) ?_
    rw [bnd_nr, bnd_nr, sh1_4 l hl, an1_4 l hl, show (31 : Int32) = nI 31 from rfl, hmk_i (by omega) (by omega) (by omega) (by omega)]
    refine RT.bind (c_copyFrom c cw.1.1) (fun q hq => ?_)
    have hH := hmk_lt (i := i) (j := j) (a := l / 2) (b := l % 2) (by omega) (by omega) (by omega) (by omega)
    refine RT.bind (c_pass6 hq cw y2 y3 hH) (fun q ⟨q2, q3, q4⟩ => ?_)
    have e9 := cw.2.1
    have w1 := WFV_ev cw.1 (GOK_go (E := E) (H := (hmk i j (l / 2) (l % 2)).testBit) cw.1.1) (by omega)
    have iw := fun k (hk : k ≤ 5) => It_wf (E := E) w1 k (by show ve U + 1 + k ≤ 20000; omega)
    have v1 : ve (evV (goB E (hmk i j (l / 2) (l % 2)).testBit U) U) = ve U + 1 := rfl
    obtain ⟨ww, wn⟩ := W6_wf (H := hmk i j (l / 2) (l % 2)) cw
    have eA : gA E F U i j l = gnV F (W6 E U (hmk i j (l / 2) (l % 2))) i - l / 2 := rfl
    have eB : gB E F U i j l = gnV F (W6 E U (hmk i j (l / 2) (l % 2))) j - l % 2 := rfl
    have g1 := gnV_bd (F := F) ww (p := i) (by omega)
    have g2 := gnV_bd (F := F) ww (p := j) (by omega)
    refine RT.loopI (fun m k (x : Ob × Ob × Ob × Ob) => f_X9_play_L54 (f_X9_play_L3 (nI i) (nI j) K N0 f n) (nI i) (nI j) (nI l) (nI (l / 2)) (nI (l % 2)) K N0 f m (nI k) yv x.1 x.2.1 x.2.2.1 x.2.2.2) 1 6 (fun k x => RCo x.2.1 E.1 ∧ RCo x.2.2.1 E.2 ∧ VC x.2.2.2 (It E (evV (goB E (hmk i j (l / 2) (l % 2)).testBit U) U) (k - 1))) Q (_, _, _, _) (by omega) (by omega) ⟨q2, q3, q4⟩ ?_ ?_
    · intro m ⟨xD, xP, xK, xT⟩ ⟨x1, x2, x3⟩
      show RT (f_X9_play_L54 (f_X9_play_L3 (nI i) (nI j) K N0 f n) (nI i) (nI j) (nI l) (nI (l / 2)) (nI (l % 2)) K N0 f (m + 1) (nI 6) yv xD xP xK xT) _
      have x4 : VC xT (W6 E U (hmk i j (l / 2) (l % 2))) := x3
      unfold f_X9_play_L54
      refine RT.itT (show nI 6 ≤ nI 6 from by decide) ?_
      simp (disch := omega) only [bnd_nr, li_0, li_1, li_2, li_3, li_4, li_5, li_6, li_7, li_8, li_9, li_10, li_11, li_12, li_13, li_14, li_15, li_16, li_17, li_18, li_19, li_20, li_21, li_22, li_23, li_24, li_25, li_26, li_27, li_28, li_29, li_30, li_31, li_32, li_33, li_34, li_35, li_36, li_37, li_38, li_39, li_40, li_41, li_42, li_43, li_44, li_45, li_46, li_47, li_48, li_49, li_50, li_51, li_52, li_53, li_54, li_55, li_56, li_57, li_58, li_59, li_60, li_61, li_62, li_63, li_64, li_74, li_86, li_87, li_88, li_96, li_97, li_98, li_99, li_100, li_101, li_102, li_103, li_104, li_105, li_107, li_108, li_109, li_110, li_111, li_112, li_114, li_115, li_116, li_117, li_118, li_121, li_122, li_124, li_136, li_148, li_160, li_680, li_200, li_201, li_255, li_700, li_950, li_1000, li_1400, li_3440, li_4096, li_9999, li_10000, li_20000, li_20033, li_20038, li_20124, li_32767, li_65535, li_1103515245, li_12345, li_m, sx_grd, sx_clamp, nI_add, sx_sub, pk_mul, sx_le, sx_lt, sx_eq, sx_eqm, sx_meq, sx_lem, sx_mle, sx_ltm, sx_mlt, sx_addm, sx_shl, sx_bit1, sx_bit0, fa_or, uA_s, uA_n, sA_s, sA_n, sx_uA, sx_uAn, sx_sAs, pk_us, pk_un, if_true, if_false, if_pos, if_neg, ob_some, Nat.add_zero, Nat.add_sub_cancel, eq_self, ne_eq, not_true, not_false_iff, false_or, true_or, or_false, or_true, false_and, true_and, and_false, and_true, c_gainOf x4 ww fc fk h12 (show i < vn (W6 E U (hmk i j (l / 2) (l % 2))) by omega), c_gainOf x4 ww fc fk h12 (show j < vn (W6 E U (hmk i j (l / 2) (l % 2))) by omega)]
      refine hk (_, _, _, _, _) ⟨fun k hk9 => ?_, x1, x2⟩
      by_cases e : k = l
      · subst e
        simp (disch := omega) only [uA_s, uA_n, sA_s, sA_n, pk_us, pk_un]
        rw [eA, eB]
        exact ⟨rfl, rfl⟩
      · simp (disch := omega) only [uA_s, uA_n, sA_s, sA_n, pk_us, pk_un]
        exact y1 k (by omega)
    · intro m k ⟨xD, xP, xK, xT⟩ hk1 hk6 ⟨x1, x2, x3⟩ hk2
      show RT (f_X9_play_L54 (f_X9_play_L3 (nI i) (nI j) K N0 f n) (nI i) (nI j) (nI l) (nI (l / 2)) (nI (l % 2)) K N0 f (m + 1) (nI k) yv xD xP xK xT) _
      obtain ⟨a, b, _⟩ := iw (k - 1) (by omega)
      unfold f_X9_play_L54
      refine RT.itF (show ¬ nI 6 ≤ nI k from nI_ge (by omega) (by omega)) ?_
      refine RT.bind (c_pass0 x3 a cw.2.2 x1 x2 (by rw [b, v1]; omega)) (fun q ⟨_, q2, q3, q4⟩ => ?_)
      rw [bnd_nr, nI_1]
      refine hk2 (_, _, _, _) ⟨q2, q3, ?_⟩
      rw [show k + 1 - 1 = (k - 1) + 1 by omega]; exact q4
def rsB (E : RE) (F : FD) (U : VT) (i j l : Nat) : Bool := !decide (gA E F U i j l < gA E F U i j (2 * (1 - l / 2) + l % 2)) && !decide (gB E F U i j l < gB E F U i j (2 * (l / 2) + (1 - l % 2)))
theorem c_rests {E : RE} {F : FD} {U : VT} {z D Rp Rk T K : Ob} {i j l : Nat} (cw : CW E U) (pd : PLD E F U i j z 4) (hi : i < vn U) (hj : j < vn U) (hl : l < 4) : f_X9_rests z D Rp Rk T K (nI l) = some (nI (if rsB E F U i j l then 1 else 0)) := by
  have a1 := gA_le (F := F) (j := j) (l := l) cw hi
  have a2 := gA_le (F := F) (j := j) (l := 2 * (1 - l / 2) + l % 2) cw hi
  have a3 := gB_le (F := F) (i := i) (l := l) cw hj
  have a4 := gB_le (F := F) (i := i) (l := 2 * (l / 2) + (1 - l % 2)) cw hj
  unfold f_X9_rests rsB
  rw [xo2_4 l hl, xo1_4 l hl, sx_grd (by omega) (by omega), sx_grd (by omega) (by omega), sx_clamp (by omega), sx_clamp (by omega), sx_grd (by omega) (by omega), sx_grd (by omega) (by omega), sx_clamp (by omega), (pd l hl).1, (pd l hl).2, (pd (2 * (1 - l / 2) + l % 2) (by omega)).1, (pd (2 * (l / 2) + (1 - l % 2)) (by omega)).2]
  simp (disch := omega) only [sx_lt]
  by_cases x : gA E F U i j l < gA E F U i j (2 * (1 - l / 2) + l % 2)
  · rw [if_pos x, decide_eq_true x]; rfl
  · rw [if_neg x, decide_eq_false x]
    by_cases y : gB E F U i j l < gB E F U i j (2 * (l / 2) + (1 - l % 2))
    · rw [if_pos y, decide_eq_true y]; rfl
    · rw [if_neg y, decide_eq_false y]; rfl
/-- the first resting pair -/
def rF (f : Nat → Bool) : Nat → Int32 | 0 => mO | l + 1 => if f l = true ∧ rF f l = mO then nI (10 * (l / 2) + l % 2) else rF f l
theorem rF_none {f : Nat → Bool} : ∀ n, n < 100000 → (rF f n = mO ↔ ∀ l, l < n → f l = false)
  | 0, _ => ⟨fun _ l h => absurd h (Nat.not_lt_zero _), fun _ => rfl⟩
  | n + 1, h => by
    have ih := rF_none (f := f) n (by omega)
    rw [rF]
    by_cases z : f n = true ∧ rF f n = mO
    · rw [if_pos z, sx_eqm (by omega)]
      exact ⟨fun x => x.elim, fun x => by rw [x n (by omega)] at z; cases z.1⟩
    · rw [if_neg z, ih]
      refine ⟨fun x l hl => ?_, fun x l hl => x l (by omega)⟩
      by_cases e : l = n
      · subst e
        cases q : f l
        · rfl
        · exact absurd ⟨q, ih.mpr x⟩ z
      · exact x l (by omega)
theorem c_restsMany {E : RE} {F : FD} {U : VT} {z D Rp Rk T K : Ob} {i j : Nat} (cw : CW E U) (pd : PLD E F U i j z 4) (hi : i < vn U) (hj : j < vn U) : f_X9_restsMany z D Rp Rk T K = some (nI (fb_ct (rsB E F U i j) 4)) := by
  refine RT.eq ?_
  refine RT.cps (fun Q hQ => ?_)
  unfold f_X9_restsMany
  refine RT.loop0 (fun n l (y : Int32) => f_X9_restsMany_L4 z D Rp Rk T K n y (nI l)) 4 (fun l y => y = nI (fb_ct (rsB E F U i j) l)) Q _ (by omega) rfl ?_ ?_
  · intro n y h
    show RT (f_X9_restsMany_L4 z D Rp Rk T K (n + 1) y (nI 4)) _
    unfold f_X9_restsMany_L4
    exact RT.itT (show nI 4 ≤ nI 4 from by decide) (RT.done hQ h)
  · intro n l y hl h hk
    show RT (f_X9_restsMany_L4 z D Rp Rk T K (n + 1) y (nI l)) _
    unfold f_X9_restsMany_L4
    refine RT.itF (show ¬ nI 4 ≤ nI l from nI_ge (by omega) (by omega)) ?_
    rw [c_rests cw pd hi hj hl, ob_some, bnd_nr, bnd_nr, nI_1]
    cases q : rsB E F U i j l
    · refine RT.itT rfl (hk _ ?_)
      rw [fb_ct_succ, q, h]; rfl
    · refine RT.itF (by decide) (hk _ ?_)
      rw [fb_ct_succ, q, h]; exact nI_1 _
theorem c_restsFirst {E : RE} {F : FD} {U : VT} {z D Rp Rk T K : Ob} {i j : Nat} (cw : CW E U) (pd : PLD E F U i j z 4) (hi : i < vn U) (hj : j < vn U) : f_X9_restsFirst z D Rp Rk T K = some (rF (rsB E F U i j) 4) := by
  refine RT.eq ?_
  refine RT.cps (fun Q hQ => ?_)
  unfold f_X9_restsFirst
  refine RT.loop0 (fun n l (_ : Unit) => f_X9_restsFirst_L2 z D Rp Rk T K n (nI l)) 4 (fun l _ => ∀ k, k < l → rsB E F U i j k = false) Q () (by omega) (fun k hk => absurd hk (Nat.not_lt_zero _)) ?_ ?_
  · intro n _ h
    show RT (f_X9_restsFirst_L2 z D Rp Rk T K (n + 1) (nI 4)) _
    unfold f_X9_restsFirst_L2
    exact RT.itT (show nI 4 ≤ nI 4 from by decide) (RT.done hQ ((rF_none 4 (by omega)).mpr h).symm)
  · intro n l _ hl h hk
    show RT (f_X9_restsFirst_L2 z D Rp Rk T K (n + 1) (nI l)) _
    unfold f_X9_restsFirst_L2
    refine RT.itF (show ¬ nI 4 ≤ nI l from nI_ge (by omega) (by omega)) ?_
    rw [c_rests cw pd hi hj hl, ob_some, bnd_nr, nI_1, sh1_4 l hl, an1_4 l hl]
    cases q : rsB E F U i j l
    · refine RT.itT rfl (hk () (fun k hk9 => ?_))
      by_cases e : k = l
      · subst e; exact q
      · exact h k (by omega)
    · refine RT.itF (by decide) (RT.done hQ ?_)
      show nI 10 * nI (l / 2) + nI (l % 2) = _
      rw [pk_mul, nI_add]
      have s1 : rF (rsB E F U i j) (l + 1) = nI (10 * (l / 2) + l % 2) := by rw [rF, if_pos ⟨q, (rF_none l (by omega)).mpr h⟩]
      have st : ∀ k, l + 1 + k ≤ 4 → rF (rsB E F U i j) (l + 1 + k) = nI (10 * (l / 2) + l % 2) := by
        intro k
        induction k with
        | zero => intro _; exact s1
        | succ k ih =>
          intro hk
          rw [← Nat.add_assoc, rF, if_neg (fun z => ?_)]
          · exact ih (by omega)
          · have := z.2
            rw [ih (by omega), sx_eqm (by omega)] at this
            exact this
      have := st (3 - l) (by omega)
      rw [show l + 1 + (3 - l) = 4 by omega] at this
      exact this.symm
theorem m_evenings6 {M : MS} {E : RE} {W : VT} {H : Nat} (v : VM M 86 W) (cw : CW E W) (hP : RMo M (M.1 3) E.1) (hK : RMo M (M.1 4) E.2) (h39 : M.1 39 = 0) (h40 : M.1 40 = nI H) (hH : H < 4096) : RT (f_X12_eveningsGo M (nI 6)) (fun r => QF (upd M.1 40 (nI 0), M.2) r ∧ VM r 86 (W6 E W H)) := by
  refine RT.cps (fun Q hQ => ?_)
  have e9 := cw.2.1
  have w1 := WFV_ev cw.1 (GOK_go (E := E) (H := H.testBit) cw.1.1) (by omega)
  have iw := fun k (hk : k ≤ 5) => It_wf (E := E) w1 k (by show ve W + 1 + k ≤ 20000; omega)
  have v1 : ve (evV (goB E H.testBit W) W) = ve W + 1 := rfl
  have ec : EC E (upd M.1 40 (nI 0), M.2) := by
    unfold EC
    show RMo _ (upd M.1 40 (nI 0) 3) _ ∧ RMo _ (upd M.1 40 (nI 0) 4) _ ∧ upd M.1 40 (nI 0) 39 = 0 ∧ upd M.1 40 (nI 0) 40 = 0
    rw [pk_un (show 3 ≠ 40 by omega), pk_un (show 4 ≠ 40 by omega), pk_un (show 39 ≠ 40 by omega), pk_us]
    exact ⟨RMo_of rfl hP, RMo_of rfl hK, h39, rfl⟩
  unfold f_X12_eveningsGo
  refine RT.loop0 (fun m i (z : MS) => f_X12_eveningsGo_L2 (nI 6) m (nI i) z) 6 (fun i z => (i = 0 ∧ z = M) ∨ (1 ≤ i ∧ QF (upd M.1 40 (nI 0), M.2) z ∧ VM z 86 (It E (evV (goB E H.testBit W) W) (i - 1)))) Q M (by omega) (Or.inl ⟨rfl, rfl⟩) ?_ ?_
  · intro m z hz
    show RT (f_X12_eveningsGo_L2 (nI 6) (m + 1) (nI 6) z) _
    rcases hz with ⟨z1, _⟩ | ⟨_, z1, z2⟩
    · omega
    · unfold f_X12_eveningsGo_L2
      exact RT.itT (nI_le (Nat.le_refl _) (by omega)) (RT.done hQ ⟨z1, z2⟩)
  · intro m i z hi hz hk
    show RT (f_X12_eveningsGo_L2 (nI 6) (m + 1) (nI i) z) _
    unfold f_X12_eveningsGo_L2
    refine RT.itF (nI_ge hi (by omega)) ?_
    rcases hz with ⟨z1, z2⟩ | ⟨z0, z1, z2⟩
    · subst z1 z2
      refine RT.bind (m_evB (b := 86) v cw.1 (by omega) (GOK_go (E := E) (H := H.testBit) cw.1.1) (by omega) (goes_rw v cw.1 (by omega) cw.2.2 hP hK h39 h40 (by omega))) (fun r ⟨⟨r1, r2, r3⟩, r4, r5, r6, r7⟩ => ?_)
      rw [bnd_nr, nI_1]
      refine hk _ (Or.inr ⟨by omega, ⟨fun j hj => ?_, r4, fun j j1 j2 => ?_, fun i hi => r7 i (Or.inl hi)⟩, r6⟩)
      · show r.1 j = upd z.1 40 (nI 0) j
        have := scI_41 hj
        by_cases e : j = 40
        · subst e; rw [pk_us, r2]; rfl
        · rw [pk_un e]; exact r1 j e this.2.1
      · have := scA_ne j2
        exact r5 j j1 (by omega) (by omega) (by omega)
    · obtain ⟨a, b, _⟩ := iw (i - 1) (by omega)
      refine RT.bind (m_ev86 z2 a (ec.qf z1) cw.2.2 (by rw [b, v1]; omega)) (fun r ⟨r1, r2, r3⟩ => ?_)
      rw [bnd_nr, nI_1]
      refine hk _ (Or.inr ⟨by omega, z1.trans r1.qf, ?_⟩)
      rw [show i + 1 - 1 = (i - 1) + 1 by omega]; exact r3
theorem m_gains {M : MS} {E : RE} {F : FD} {V : VT} {i j a b n0 : Nat} (vm : VM M 0 V) (cw : CW E V) (ec : EC E M) (fm : FM M F) (fk : FOK F n0) (h12 : n0 ≤ 12) (hi : i < vn V) (hj : j < vn V) (ha : a ≤ 1) (hb : b ≤ 1) : RT (f_X12_gains M (nI i) (nI j) (nI a) (nI b)) (fun q => q.1 = nI (gnV F (W6 E (idV V nI) (hmk i j a b)) i - a) ∧ QF M q.2) := by
  refine RT.cps (fun Q hQ => ?_)
  have b0 := cw.1.1.1
  have cwi : CW E (idV V nI) := ⟨cw.1.idv nI, cw.2.1, cw.2.2⟩
  unfold f_X12_gains
  refine RT.bind (m_tries vm cw.1) (fun q ⟨q1, q2, q3⟩ => ?_)
  have ecq := ec.qf q1.qf
  rw [bnd_nr, show (31 : Int32) = nI 31 from rfl, hmk_i (by omega) (by omega) ha hb]
  have hH := hmk_lt (i := i) (j := j) (by omega) (by omega) ha hb
  obtain ⟨ww, wn⟩ := W6_wf (H := hmk i j a b) cwi
  have g1 := gnV_bd (F := F) ww (p := i) (by rw [wn]; exact hi)
  generalize hmk i j a b = H at *
  have ev := m_evenings6 (M := (upd q.1 40 (nI H), q.2)) (E := E) (W := idV V nI) (H := H) (VM_of (by show upd q.1 40 (nI H) 1 = q.1 1; rw [pk_un (by omega)]) rfl q3) cwi (by
      show RMo _ (upd q.1 40 (nI H) 3) _
      rw [pk_un (by omega)]; exact RMo_of rfl ecq.1) (by
      show RMo _ (upd q.1 40 (nI H) 4) _
      rw [pk_un (by omega)]; exact RMo_of rfl ecq.2.1) (by
      show upd q.1 40 (nI H) 39 = 0
      rw [pk_un (by omega)]; exact ecq.2.2.1) (by
      show upd q.1 40 (nI H) 40 = _
      rw [pk_us]) hH
  refine RT.bind ev (fun r ⟨r1, r2⟩ => ?_)
  have e40 : ((upd (upd q.1 40 (nI H)) 40 (nI 0), q.2) : MS) = q := by
    rw [show upd (upd q.1 40 (nI H)) 40 (nI 0) = q.1 from funext (fun k => by
      by_cases e : k = 40
      · subst e; rw [pk_us, ecq.2.2.2]; rfl
      · rw [pk_un e, pk_un e])]
  have rq : QF q r := by
    have := r1
    change QF (upd (upd q.1 40 (nI H)) 40 (nI 0), q.2) r at this
    rw [e40] at this
    exact this
  have rf := fm.qf (q1.qf.trans rq)
  have hb9 := (ww.1.2.1 i (by rw [wn]; exact hi)).1
  have b9 := ww.1.1
  have e1 := r2.h8 i (by rw [wn]; exact hi)
  have lt := cpN_lt (V := W6 E (idV V nI) H) (p := i)
  have p12 : 2 ^ vn (W6 E (idV V nI) H) ≤ 2 ^ 12 := Nat.pow_le_pow_right (by omega) b9.1
  have la : cpN (W6 E (idV V nI) H) i &&& foM F i < 8192 := Nat.lt_of_le_of_lt Nat.and_le_left (by omega)
  rw [show (88 : Int32) = nI 88 from rfl, nI_add, sx_grd (by omega) (by omega), sx_clamp (by omega), e1, show (86 : Int32) = nI 86 from rfl, m_sizeOf r2 ww.1 (by omega) (by omega), ob_some, m_withOne r2 ww.1 (by omega) (by rw [wn]; exact hi), ob_some, m_friendsOf rf fk h12 (by omega), ob_some, fa_and, g_bits (by omega), ob_some, nI_add]
  refine RT.done hQ ⟨?_, q1.qf.trans rq⟩
  show nI (gnV F (W6 E (idV V nI) H) i) - nI a = _
  rw [sx_sub (by omega)]
theorem m_game0 {M : MS} {E : RE} {F : FD} {V : VT} {i j n0 : Nat} {w0 : Int32} (vm : VM M 0 V) (cw : CW E V) (ec : EC E M) (fm : FM M F) (fk : FOK F n0) (h12 : n0 ≤ 12) (hi : i < vn V) (hj : j < vn V) : RT (f_X12_game_L59 (nI i) (nI j) w0 FUEL (nI 0) mO (nI 0) M) (fun q => q.1 = (if w0 = 0 then nI (fb_ct (rsB E F (idV V nI) i j) 4) else rF (rsB E F (idV V nI) i j) 4) ∧ QF M q.2) := by
  refine RT.cps (fun Q hQ => ?_)
  have cwi : CW E (idV V nI) := ⟨cw.1.idv nI, cw.2.1, cw.2.2⟩
  refine RT.loop0 (fun n l (y : Int32 × Int32 × MS) => f_X12_game_L59 (nI i) (nI j) w0 n y.1 y.2.1 (nI l) y.2.2) 4 (fun l y => y.1 = nI (fb_ct (rsB E F (idV V nI) i j) l) ∧ y.2.1 = rF (rsB E F (idV V nI) i j) l ∧ QF M y.2.2) Q (_, _, M) (by omega) ⟨rfl, rfl, QF.refl M⟩ ?_ ?_
  · intro n ⟨ya, yb, z⟩ ⟨y1, y2, y3⟩
    show RT (f_X12_game_L59 (nI i) (nI j) w0 (n + 1) ya yb (nI 4) z) _
    unfold f_X12_game_L59
    refine RT.itT (show nI 4 ≤ nI 4 from by decide) ?_
    refine RT.ite (fun e => RT.done hQ ⟨y1.trans (if_pos e).symm, y3⟩) (fun e => RT.done hQ ⟨y2.trans (if_neg e).symm, y3⟩)
  · intro n l ⟨ya, yb, z⟩ hl ⟨y1, y2, y3⟩ hk
    show RT (f_X12_game_L59 (nI i) (nI j) w0 (n + 1) ya yb (nI l) z) _
    dsimp only at y1 y2 y3
    have f1 : rF (rsB E F (idV V nI) i j) (l + 1) = if rsB E F (idV V nI) i j l = true ∧ rF (rsB E F (idV V nI) i j) l = mO then nI (10 * (l / 2) + l % 2) else rF (rsB E F (idV V nI) i j) l := rfl
    have ff : ∀ x, QF M x → VM x 0 V ∧ EC E x ∧ FM x F := fun x hx => ⟨vm.qf cw.1 hx, ec.qf hx, fm.qf hx⟩
    have a1 := gA_le (F := F) (j := j) (l := l) cwi hi
    have a2 := gA_le (F := F) (j := j) (l := 2 * (1 - l / 2) + l % 2) cwi hi
    have a3 := gB_le (F := F) (i := i) (l := l) cwi hj
    have a4 := gB_le (F := F) (i := i) (l := 2 * (l / 2) + (1 - l % 2)) cwi hj
    have rs9 : rsB E F (idV V nI) i j l = (!decide (gA E F (idV V nI) i j l < gA E F (idV V nI) i j (2 * (1 - l / 2) + l % 2)) && !decide (gB E F (idV V nI) i j l < gB E F (idV V nI) i j (2 * (l / 2) + (1 - l % 2)))) := rfl
    have no : rsB E F (idV V nI) i j l = false → ∀ x, QF M x → RT (f_X12_game_L59 (nI i) (nI j) w0 n ya yb (nI (l + 1)) x) Q := by
      intro g x hx
      refine hk (_, _, _) ⟨?_, ?_, hx⟩
      · rw [fb_ct_succ, g]; exact y1
      · rw [f1, g, if_neg (fun z => by cases z.1)]; exact y2
    unfold f_X12_game_L59
    refine RT.itF (show ¬ nI 4 ≤ nI l from nI_ge (by omega) (by omega)) ?_
    rw [rm2_4 l hl, dv2_4 l hl, bnd_nr, bnd_nr, show (1 : Int32) - nI (l / 2) = nI (1 - l / 2) from sx_sub (a := 1) (by omega), show (1 : Int32) - nI (l % 2) = nI (1 - l % 2) from sx_sub (a := 1) (by omega)]
    have fz := ff z y3
    refine RT.bind (m_gains fz.1 cw fz.2.1 fz.2.2 fk h12 hi hj (a := 1 - l / 2) (b := l % 2) (by omega) (by omega)) (fun q ⟨q1, q2⟩ => ?_)
    have fq := ff q.2 (y3.trans q2)
    refine RT.bind (m_gains fq.1 cw fq.2.1 fq.2.2 fk h12 hi hj (a := l / 2) (b := l % 2) (by omega) (by omega)) (fun r ⟨r1, r2⟩ => ?_)
    have hr := (y3.trans q2).trans r2
    have e1 : gnV F (W6 E (idV V nI) (hmk i j (1 - l / 2) (l % 2))) i - (1 - l / 2) = gA E F (idV V nI) i j (2 * (1 - l / 2) + l % 2) := by
      unfold gA
      rw [show (2 * (1 - l / 2) + l % 2) / 2 = 1 - l / 2 by omega, show (2 * (1 - l / 2) + l % 2) % 2 = l % 2 by omega]
    have e2 : gnV F (W6 E (idV V nI) (hmk i j (l / 2) (l % 2))) i - l / 2 = gA E F (idV V nI) i j l := rfl
    rw [e1] at q1
    rw [e2] at r1
    rw [q1, r1]
    refine RT.ite (fun x => ?_) (fun x => ?_)
    · rw [sx_lt (by omega) (by omega)] at x
      rw [bnd_nr, nI_1]
      exact no (by rw [rs9, decide_eq_true x]; rfl) _ hr
    · rw [sx_lt (by omega) (by omega)] at x
      have fr := ff r.2 hr
      refine RT.bind (m_gains fr.1 cw fr.2.1 fr.2.2 fk h12 hj hi (a := 1 - l % 2) (b := l / 2) (by omega) (by omega)) (fun s ⟨s1, s2⟩ => ?_)
      have fs := ff s.2 (hr.trans s2)
      refine RT.bind (m_gains fs.1 cw fs.2.1 fs.2.2 fk h12 hj hi (a := l % 2) (b := l / 2) (by omega) (by omega)) (fun t ⟨t1, t2⟩ => ?_)
      have ht := (hr.trans s2).trans t2
      have e3 : gnV F (W6 E (idV V nI) (hmk j i (1 - l % 2) (l / 2))) j - (1 - l % 2) = gB E F (idV V nI) i j (2 * (l / 2) + (1 - l % 2)) := by
        unfold gB
        rw [show (2 * (l / 2) + (1 - l % 2)) / 2 = l / 2 by omega, show (2 * (l / 2) + (1 - l % 2)) % 2 = 1 - l % 2 by omega, hmk_c i j]
      have e4 : gnV F (W6 E (idV V nI) (hmk j i (l % 2) (l / 2))) j - l % 2 = gB E F (idV V nI) i j l := by
        unfold gB
        rw [hmk_c i j]
      rw [e3] at s1
      rw [e4] at t1
      rw [s1, t1]
      refine RT.ite (fun y => ?_) (fun y => ?_)
      · rw [sx_le (by omega) (by omega)] at y
        have g : rsB E F (idV V nI) i j l = true := by rw [rs9, decide_eq_false x, decide_eq_false (by omega)]; rfl
        rw [bnd_nr]
        refine RT.ite (fun e => ?_) (fun e => ?_)
        · rw [bnd_nr, bnd_nr, nI_1]
          refine hk (_, nI 10 * nI (l / 2) + nI (l % 2), _) ⟨?_, ?_, ht⟩
          · rw [fb_ct_succ, g, y1]; exact nI_1 _
          · rw [f1, if_pos ⟨g, y2 ▸ e⟩]
            show nI 10 * nI (l / 2) + nI (l % 2) = _
            rw [pk_mul, nI_add]
        · rw [bnd_nr, nI_1]
          refine hk (_, _, _) ⟨?_, ?_, ht⟩
          · rw [fb_ct_succ, g, y1]; exact nI_1 _
          · rw [f1, if_neg (fun z => e (y2 ▸ z.2))]; exact y2
      · rw [sx_le (by omega) (by omega)] at y
        rw [bnd_nr, nI_1]
        exact no (by rw [rs9, decide_eq_false x, decide_eq_true (by omega)]; rfl) _ ht
