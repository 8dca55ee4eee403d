/-! other ranks that fit what was seen -/
def gsB (E : RE) (S : SN) (U : VT) (a : Nat) : Bool := !decide (rk U (a / 10) = a % 10) && seB E S (rkV U (a / 10) (a % 10))
def gf (E : RE) (S : SN) (U : VT) : Nat → Int32 | 0 => mO | a + 1 => if gsB E S U a = true ∧ gf E S U a = mO then nI a else gf E S U a
def gc (E : RE) (S : SN) (U : VT) (a : Nat) : Nat := fb_ct (gsB E S U) a
def gz (E : RE) (S : SN) (U : VT) (p : Nat) : Nat → Nat | 0 => 0 | a + 1 => if gsB E S U a then gz E S U p a ||| 2 ^ s5 E (rkV U (a / 10) (a % 10)) p else gz E S U p a
theorem gf_iff {E : RE} {S : SN} {U : VT} : ∀ a, a < 100000 → (gf E S U a = mO ↔ gc E S U a = 0)
  | 0, _ => ⟨fun _ => rfl, fun _ => rfl⟩
  | a + 1, h => by
    have ih := gf_iff (E := E) (S := S) (U := U) a (by omega)
    unfold gc at ih ⊢
    rw [gf, fb_ct_succ]
    cases g : gsB E S U a
    · rw [if_neg (fun z => by cases z.1), if_neg (by decide)]; exact ih
    · rw [if_pos rfl]
      by_cases z : gf E S U a = mO
      · rw [if_pos ⟨rfl, z⟩, sx_eqm (by omega)]
        exact ⟨fun h => h.elim, fun h => by omega⟩
      · rw [if_neg (fun y => z y.2)]
        exact ⟨fun h => absurd h z, fun h => by omega⟩
theorem gc_succ {E : RE} {S : SN} {U : VT} {a : Nat} : gc E S U (a + 1) = if gsB E S U a then gc E S U a + 1 else gc E S U a := by
  unfold gc
  rw [fb_ct_succ]
  split <;> rfl
theorem gc_le {E : RE} {S : SN} {U : VT} {a : Nat} : gc E S U a ≤ a := fb_ct_le _ _
theorem s5_le {E : RE} {W : VT} {p : Nat} : s5 E W p ≤ vn (It E W 5) := sz_le _ _
theorem gz_lt {E : RE} {S : SN} {U : VT} {p : Nat} (cw : CW E U) : ∀ a, gz E S U p a < 8192
  | 0 => by show 0 < 8192; omega
  | a + 1 => by
    have ih := gz_lt (S := S) (p := p) cw a
    rw [gz]
    split
    · refine Nat.or_lt_two_pow (n := 13) ih ?_
      have h := s5_le (E := E) (W := rkV U (a / 10) (a % 10)) (p := p)
      have h2 := (It_wf (E := E) (WFV_rk cw.1 (p := a / 10) (r := a % 10) (by omega)) 5 (by show ve U + 5 ≤ 20000; have := cw.2.1; omega)).2.2
      have h3 : vn U ≤ 12 := cw.1.1.1.1
      rw [h2] at h
      change s5 E (rkV U (a / 10) (a % 10)) p ≤ vn U at h
      exact Nat.pow_lt_pow_right (by omega) (by omega)
    · exact ih
theorem CW.rk {E : RE} {U : VT} (cw : CW E U) {p r : Nat} (hr : r ≤ 9) : CW E (rkV U p r) := ⟨WFV_rk cw.1 hr, cw.2.1, cw.2.2⟩
theorem c_tryWith {U : VT} {v D Rp Rk T K N0 : Ob} {p r : Nat} (c : VC N0 U) (w : WFP U) (hp : p < vn U) : RT (f_X9_tryWith v D Rp Rk T K N0 (nI p) (nI r)) (fun y => VC y (rkV U p r)) := by
  refine RT.cps (fun Q hQ => ?_)
  have b0 := w.1
  unfold f_X9_tryWith
  refine RT.bind (c_copyFrom c w) (fun q hq => ?_)
  rw [sx_grd (by omega) (by omega), sx_clamp (by omega), bnd_nr]
  refine RT.done hQ ⟨hq.1, fun o ho9 => ?_, fun h hh => ?_⟩
  · obtain ⟨h1, h2⟩ := hq.2.1 o ho9
    refine ⟨?_, h2⟩
    show uA q.2 1 p (nI r) 1 o = nI (if o = p then r else rk U o)
    by_cases e : o = p
    · subst e; rw [uA_s, pk_us, if_pos rfl]
    · rw [uA_s, pk_un e, if_neg e]; exact h1
  · exact hq.2.2 h hh
theorem c_noteSizes {E : RE} {W : VT} {v D Rp Rk T K : Ob} (c : VC T W) (cw : CW E W) (h1 : RCo Rp E.1) (h2 : RCo Rk E.2) : RT (f_X9_noteSizes v D Rp Rk T K) (fun q => q.1.1 = v.1 ∧ (∀ p, p < vn W → q.1.2 1 p = v.2 1 p ||| nI (2 ^ s5 E W p)) ∧ RCo q.2.2.1 E.1 ∧ RCo q.2.2.2.1 E.2) := by
  refine RT.cps (fun Q hQ => ?_)
  have b0 := cw.1.1.1
  unfold f_X9_noteSizes
  refine RT.loop0 (fun n i (y : Ob × Ob × Ob × Ob) => f_X9_noteSizes_L2 K n (nI i) v y.1 y.2.1 y.2.2.1 y.2.2.2) 5 (fun i y => RCo y.2.1 E.1 ∧ RCo y.2.2.1 E.2 ∧ VC y.2.2.2 (It E W i)) Q (D, Rp, Rk, T) (by omega) ⟨h1, h2, c⟩ ?_ ?_
  · intro n ⟨yD, yP, yK, yT⟩ ⟨y1, y2, y3⟩
    show RT (f_X9_noteSizes_L2 K (n + 1) (nI 5) v yD yP yK yT) _
    obtain ⟨wi, ei, ni⟩ := cw.it (E := E) (i := 5) (by omega)
    unfold f_X9_noteSizes_L2
    refine RT.itT (show nI 5 ≤ nI 5 from by decide) ?_
    refine RT.loop0 (fun n p (z : Ob) => f_X9_noteSizes_L28 K n (nI p) z yD yP yK yT) (vn W) (fun p z => z.1 = v.1 ∧ ∀ q, q < vn W → z.2 1 q = if q < p then v.2 1 q ||| nI (2 ^ s5 E W q) else v.2 1 q) Q v (by omega) ⟨rfl, fun q _ => by rw [if_neg (by omega)]⟩ ?_ ?_
    · intro n z ⟨z1, z2⟩
      show RT (f_X9_noteSizes_L28 K (n + 1) (nI (vn W)) z yD yP yK yT) _
      unfold f_X9_noteSizes_L28
      refine RT.itT (by rw [y3.1.1, ni]; exact nI_le (Nat.le_refl _) (by omega)) (RT.done hQ ⟨z1, fun q hq => ?_, y1, y2⟩)
      rw [z2 q hq, if_pos hq]
    · intro n p z hp ⟨z1, z2⟩ hk
      show RT (f_X9_noteSizes_L28 K (n + 1) (nI p) z yD yP yK yT) _
      have hb := (wi.1.2.1 p (by omega)).1
      have e1 : yT.2 2 p = _ := y3.h p (by omega)
      have e2 : yT.2 6 _ = _ := y3.z _ hb
      have sl := sz_le (It E W 5) (ho (It E W 5) p)
      have b9 := wi.1.1
      have zp := z2 p hp
      rw [if_neg (by omega)] at zp
      unfold f_X9_noteSizes_L28
      refine RT.itF (by rw [y3.1.1, ni]; exact nI_ge hp (by omega)) ?_
      simp (disch := omega) only [bnd_nr, li_0, li_1, li_2, li_3, li_4, li_5, li_6, li_7, li_8, li_9, li_10, li_11, li_12, li_13, li_14, li_15, li_16, li_17, li_18, li_19, li_20, li_21, li_22, li_23, li_24, li_25, li_26, li_27, li_28, li_29, li_30, li_31, li_32, li_33, li_34, li_35, li_36, li_37, li_38, li_39, li_40, li_41, li_42, li_43, li_44, li_45, li_46, li_47, li_48, li_49, li_50, li_51, li_52, li_53, li_54, li_55, li_56, li_57, li_58, li_59, li_60, li_61, li_62, li_63, li_64, li_74, li_86, li_87, li_88, li_96, li_97, li_98, li_99, li_100, li_101, li_102, li_103, li_104, li_105, li_107, li_108, li_109, li_110, li_111, li_112, li_114, li_115, li_116, li_117, li_118, li_121, li_122, li_124, li_136, li_148, li_160, li_680, li_200, li_201, li_255, li_700, li_950, li_1000, li_1400, li_3440, li_4096, li_9999, li_10000, li_20000, li_20033, li_20038, li_20124, li_32767, li_65535, li_1103515245, li_12345, li_m, sx_grd, sx_clamp, nI_add, sx_sub, pk_mul, sx_le, sx_lt, sx_eq, sx_eqm, sx_meq, sx_lem, sx_mle, sx_ltm, sx_mlt, sx_addm, sx_shl, sx_bit1, sx_bit0, fa_or, uA_s, uA_n, sA_s, sA_n, sx_uA, sx_uAn, sx_sAs, pk_us, pk_un, if_true, if_false, if_pos, if_neg, ob_some, Nat.add_zero, Nat.add_sub_cancel, eq_self, ne_eq, not_true, not_false_iff, false_or, true_or, or_false, or_true, false_and, true_and, and_false, and_true, e1, e2, zp]
      refine hk _ ⟨z1, fun q hq => ?_⟩
      by_cases qp : q = p
      · subst qp; simp only [uA_s, pk_us]; rw [if_pos (by omega)]; rfl
      · simp only [uA_s, pk_un qp]
        rw [z2 q hq]
        by_cases ql : q < p
        · rw [if_pos ql, if_pos (by omega)]
        · rw [if_neg ql, if_neg (by omega)]
  · intro n i ⟨yD, yP, yK, yT⟩ hi ⟨y1, y2, y3⟩ hk
    show RT (f_X9_noteSizes_L2 K (n + 1) (nI i) v yD yP yK yT) _
    obtain ⟨wi, ei, ni⟩ := cw.it (E := E) (i := i) (by omega)
    unfold f_X9_noteSizes_L2
    refine RT.itF (show ¬ nI 5 ≤ nI i from nI_ge (by omega) (by omega)) ?_
    refine RT.bind (c_pass0 y3 wi cw.2.2 y1 y2 (by have := cw.2.1; omega)) (fun q ⟨_, q2, q3, q4⟩ => ?_)
    rw [bnd_nr, nI_1]
    exact hk (_, _, _, _) ⟨q2, q3, q4⟩
/-- the trials' notes up to a -/
def GI (E : RE) (S : SN) (U : VT) (b : Bool) (z : Ob) (a : Nat) : Prop := z.1 3 = nI (gc E S U a) ∧ z.1 4 = gf E S U a ∧ (b = true → ∀ p, p < vn U → z.2 1 p = nI (gz E S U p a))
theorem c_tryRanks {E : RE} {S : SN} {U : VT} {v D Rp Rk T K N0 o : Ob} {b : Bool} (c : VC N0 U) (cw : CW E U) (h1 : RCo Rp E.1) (h2 : RCo Rk E.2) (s : SCo o S) (sk : SOK S (vn U)) : RT (f_X9_tryRanks v D Rp Rk T K N0 o (nI (if b then 1 else 0))) (fun q => GI E S U b q.1 (10 * vn U) ∧ RCo q.2.2.1 E.1 ∧ RCo q.2.2.2.1 E.2) := by
  refine RT.cps (fun Q hQ => ?_)
  have b0 := cw.1.1.1
  unfold f_X9_tryRanks
  rw [bnd_nr, bnd_nr, j_fill _ (by omega), ob_some, bnd_nr]
  refine RT.loop0 (fun n p (y : Ob × Ob × Ob × Ob × Ob) => f_X9_tryRanks_L21 (nI (if b then 1 else 0)) K N0 o n (nI p) y.1 y.2.1 y.2.2.1 y.2.2.2.1 y.2.2.2.2) (vn U) (fun p y => GI E S U b y.1 (10 * p) ∧ RCo y.2.2.1 E.1 ∧ RCo y.2.2.2.1 E.2) Q (_, D, Rp, Rk, T) (by omega) ⟨⟨?_, ?_, fun _ p hp => ?_⟩, h1, h2⟩ ?_ ?_
  · rfl
  · rfl
  · simp only [sA_s]
    rw [fa_fill_in (by omega)]; rfl
  · intro n ⟨yv, yD, yP, yK, yT⟩ ⟨y1, y2, y3⟩
    show RT (f_X9_tryRanks_L21 (nI (if b then 1 else 0)) K N0 o (n + 1) (nI (vn U)) yv yD yP yK yT) _
    unfold f_X9_tryRanks_L21
    exact RT.itT (by rw [c.1.1]; exact nI_le (Nat.le_refl _) (by omega)) (RT.done hQ ⟨y1, y2, y3⟩)
  · intro n p ⟨yv, yD, yP, yK, yT⟩ hp ⟨y1, y2, y3⟩ hk
    show RT (f_X9_tryRanks_L21 (nI (if b then 1 else 0)) K N0 o (n + 1) (nI p) yv yD yP yK yT) _
    unfold f_X9_tryRanks_L21
    refine RT.itF (by rw [c.1.1]; exact nI_ge hp (by omega)) ?_
    refine RT.loop0 (fun m r (y : Ob × Ob × Ob × Ob × Ob) => f_X9_tryRanks_L33 (f_X9_tryRanks_L21 (nI (if b then 1 else 0)) K N0 o n) (nI (if b then 1 else 0)) (nI p) K N0 o m (nI r) y.1 y.2.1 y.2.2.1 y.2.2.2.1 y.2.2.2.2) 10 (fun r y => GI E S U b y.1 (10 * p + r) ∧ RCo y.2.2.1 E.1 ∧ RCo y.2.2.2.1 E.2) Q (yv, yD, yP, yK, yT) (by omega) ⟨y1, y2, y3⟩ ?_ ?_
    · intro m ⟨yv, yD, yP, yK, yT⟩ ⟨y1, y2, y3⟩
      show RT (f_X9_tryRanks_L33 (f_X9_tryRanks_L21 (nI (if b then 1 else 0)) K N0 o n) (nI (if b then 1 else 0)) (nI p) K N0 o (m + 1) (nI 10) yv yD yP yK yT) _
      unfold f_X9_tryRanks_L33
      refine RT.itT (show nI 9 < nI 10 from by decide) ?_
      rw [bnd_nr, nI_1]
      exact hk (_, _, _, _, _) ⟨y1, y2, y3⟩
    · intro m r ⟨yv, yD, yP, yK, yT⟩ hr ⟨y1, y2, y3⟩ hk2
      show RT (f_X9_tryRanks_L33 (f_X9_tryRanks_L21 (nI (if b then 1 else 0)) K N0 o n) (nI (if b then 1 else 0)) (nI p) K N0 o (m + 1) (nI r) yv yD yP yK yT) _
      have a1 : (10 * p + r) / 10 = p := by omega
      have a2 : (10 * p + r) % 10 = r := by omega
      have gs : gsB E S U (10 * p + r) = (!decide (rk U p = r) && seB E S (rkV U p r)) := by unfold gsB; rw [a1, a2]
      have cc := gc_succ (E := E) (S := S) (U := U) (a := 10 * p + r)
      have cl := gc_le (E := E) (S := S) (U := U) (a := 10 * p + r)
      have fi := gf_iff (E := E) (S := S) (U := U) (10 * p + r) (by omega)
      have f1 : gf E S U (10 * p + r + 1) = if gsB E S U (10 * p + r) = true ∧ gf E S U (10 * p + r) = mO then nI (10 * p + r) else gf E S U (10 * p + r) := rfl
      have z1 : ∀ q, gz E S U q (10 * p + r + 1) = if gsB E S U (10 * p + r) then gz E S U q (10 * p + r) ||| 2 ^ s5 E (rkV U p r) q else gz E S U q (10 * p + r) := fun q => by rw [gz, a1, a2]
      have rk9 := (cw.1.1.2.1 p hp).2.2.1
      have no : gsB E S U (10 * p + r) = false → ∀ x P K9 T9 D9, RCo P E.1 → RCo K9 E.2 → GI E S U b x (10 * p + r) → RT (f_X9_tryRanks_L33 (f_X9_tryRanks_L21 (nI (if b then 1 else 0)) K N0 o n) (nI (if b then 1 else 0)) (nI p) K N0 o m (nI (r + 1)) x D9 P K9 T9) Q := by
        intro g x P K9 T9 D9 hP hK ⟨x1, x2, x3⟩
        refine hk2 (_, _, _, _, _) ⟨⟨?_, ?_, fun b1 q hq => ?_⟩, hP, hK⟩
        · rw [← Nat.add_assoc, cc, g, if_neg (by decide)]; exact x1
        · rw [← Nat.add_assoc, f1, g, if_neg (fun z => by cases z.1)]; exact x2
        · rw [← Nat.add_assoc, z1, g, if_neg (by decide)]; exact x3 b1 q hq
      unfold f_X9_tryRanks_L33
      refine RT.itF (show ¬ nI 9 < nI r from nI_nlt (by omega) (by omega)) ?_
      refine RT.bind (c_tryWith c cw.1.1 hp) (fun T1 t1 => ?_)
      rw [sx_grd (by omega) (by omega), sx_clamp (by omega), c.r p hp]
      refine RT.ite (fun e => ?_) (fun e => ?_)
      · rw [nI_eq (by omega) (by omega)] at e
        rw [bnd_nr, nI_1]
        exact no (by rw [gs, decide_eq_true e.symm]; rfl) _ _ _ _ _ y2 y3 y1
      · rw [nI_eq (by omega) (by omega)] at e
        refine RT.bind (c_passesAsSeen t1 (cw.rk (by omega)) y2 y3 s sk) (fun q ⟨q1, q2, q3⟩ => ?_)
        rw [q1]
        cases eq : seB E S (rkV U p r)
        · refine RT.itT rfl ?_
          rw [bnd_nr, nI_1]
          exact no (by rw [gs, eq, Bool.and_false]) _ _ _ _ _ q2 q3 y1
        · have g : gsB E S U (10 * p + r) = true := by rw [gs, eq, decide_eq_false (fun z => e z.symm)]; rfl
          rw [if_pos g] at cc
          obtain ⟨x1, x2, x3⟩ := y1
          dsimp only at x1 x2 x3
          have go : ∀ x : Ob, x.1 3 = nI (gc E S U (10 * p + r)) → x.1 4 = gf E S U (10 * p + r + 1) → x.2 = yv.2 → RT (f_X9_tryRanks_J88 (f_X9_tryRanks_L33 (f_X9_tryRanks_L21 (nI (if b then 1 else 0)) K N0 o n) (nI (if b then 1 else 0)) (nI p) K N0 o m) (nI (if b then 1 else 0)) (nI p) K N0 o (nI r) x q.2.1 q.2.2.1 q.2.2.2.1 q.2.2.2.2) Q := by
            intro x w1 w2 w3
            unfold f_X9_tryRanks_J88
            rw [bnd_nr]
            cases b
            · refine RT.itT rfl ?_
              rw [bnd_nr, nI_1]
              refine hk2 (_, _, _, _, _) ⟨⟨?_, ?_, fun b1 => by cases b1⟩, q2, q3⟩
              · show upd x.1 3 (x.1 3 + nI 1) 3 = _
                rw [pk_us, w1, nI_add, ← Nat.add_assoc, cc]
              · show upd x.1 3 (x.1 3 + nI 1) 4 = _
                rw [pk_un (by omega), w2, ← Nat.add_assoc]
            · refine RT.itF (by decide) ?_
              refine RT.bind (c_tryWith c cw.1.1 hp) (fun T2 t2 => ?_)
              refine RT.bind (c_noteSizes t2 (cw.rk (by omega)) q2 q3) (fun u ⟨u1, u2, u3, u4⟩ => ?_)
              rw [bnd_nr, nI_1]
              refine hk2 (_, _, _, _, _) ⟨⟨?_, ?_, fun b1 q hq => ?_⟩, u3, u4⟩
              · show u.1.1 3 = _
                rw [u1]
                show upd x.1 3 (x.1 3 + nI 1) 3 = _
                rw [pk_us, w1, nI_add, ← Nat.add_assoc, cc]
              · show u.1.1 4 = _
                rw [u1]
                show upd x.1 3 (x.1 3 + nI 1) 4 = _
                rw [pk_un (by omega), w2, ← Nat.add_assoc]
              · show u.1.2 1 q = _
                rw [u2 q hq]
                show x.2 1 q ||| _ = _
                rw [w3, x3 rfl q hq, fa_or, ← Nat.add_assoc, z1, if_pos g]
          refine RT.itF (by decide) ?_
          by_cases c0 : gc E S U (10 * p + r) = 0
          · refine RT.itT (by rw [x1, c0]; rfl) ?_
            rw [bnd_nr]
            refine go _ ?_ ?_ rfl
            · show upd yv.1 4 (nI 10 * nI p + nI r) 3 = _
              rw [pk_un (by omega)]; exact x1
            · show upd yv.1 4 (nI 10 * nI p + nI r) 4 = _
              rw [pk_us, f1, if_pos ⟨g, fi.mpr c0⟩, pk_mul, nI_add]
          · refine RT.itF (by rw [x1]; exact fun z => c0 ((nI_eq (b := 0) (by omega) (by omega)).mp z)) ?_
            refine go _ x1 ?_ rfl
            rw [f1, if_neg (fun z => c0 (fi.mp z.2))]; exact x2
theorem VM.rk8 {M : MS} {U : VT} (v : VM M 86 U) {p r : Nat} (hp : p < vn U) (h12 : vn U ≤ 12) (hh : vh U ≤ 12) : VM (M.1, M.2.1, uA M.2.2 10 (136 + p) (nI r)) 86 (rkV U p r) := by
  refine ⟨v.1, ⟨?_, ?_⟩, fun q hq => ⟨?_, ?_, ?_, ?_, ?_⟩, fun h hh9 => ⟨?_, ?_⟩⟩
  · simp only [uA_s, pk_un (show 86 + 0 ≠ 136 + p by omega)]; exact v.e
  · simp only [uA_s, pk_un (show 86 + 1 ≠ 136 + p by omega)]; exact v.n
  · change q < vn U at hq
    simp only [uA_s, pk_un (show 86 + 2 + q ≠ 136 + p by omega)]; exact v.h q hq
  · change q < vn U at hq
    simp only [uA_s, pk_un (show 86 + 14 + q ≠ 136 + p by omega)]; exact v.p q hq
  · change q < vn U at hq
    simp only [uA_s, pk_un (show 86 + 26 + q ≠ 136 + p by omega)]; exact v.s q hq
  · change q < vn U at hq
    simp only [uA_s, pk_un (show 86 + 38 + q ≠ 136 + p by omega)]; exact v.m q hq
  · change q < vn U at hq
    show uA M.2.2 10 (136 + p) (nI r) 10 (86 + 50 + q) = nI (if q = p then r else rk U q)
    by_cases e : q = p
    · subst e; rw [uA_s, show 86 + 50 + q = 136 + q by omega, pk_us, if_pos rfl]
    · rw [uA_s, pk_un (show 86 + 50 + q ≠ 136 + p by omega), if_neg e]; exact v.r q hq
  · change h < vh U at hh9
    simp only [uA_s, pk_un (show 86 + 62 + h ≠ 136 + p by omega)]; exact v.o h hh9
  · change h < vh U at hh9
    simp only [uA_s, pk_un (show 86 + 74 + h ≠ 136 + p by omega)]; exact v.i h hh9
theorem EVF.r8 {M r : MS} (h : EVF M r) {k : Nat} {x : Int32} (hk : 86 ≤ k) : EVF M (r.1, r.2.1, uA r.2.2 10 k x) := by
  refine ⟨h.1, h.2.1, fun j j1 j2 j3 j4 => ?_, fun i hi => ?_⟩
  · simp only [uA_n j1]; exact h.2.2.1 j j1 j2 j3 j4
  · simp only [uA_s, pk_un (show i ≠ k by omega)]; exact h.2.2.2 i hi
theorem bz_01 {b : Bool} : bz (nI (if b then 1 else 0)) = true := by cases b <;> decide
theorem m_isGuess {M : MS} {E : RE} {S : SN} {V : VT} {a : Nat} (vm : VM M 0 V) (cw : CW E V) (ec : EC E M) (s : SMo M S) (sk : SOK S (vn V)) (ha : a < 10 * vn V) : RT (f_X12_isGuess M (nI a)) (fun q => q.1 = nI (if gsB E S (idV V nI) a then 1 else 0) ∧ QF M q.2 ∧ q.2.2.2 22 = M.2.2 22 ∧ (gsB E S (idV V nI) a = true → SO5 q.2 E (rkV (idV V nI) (a / 10) (a % 10)))) := by
  refine RT.cps (fun Q hQ => ?_)
  have b0 := cw.1.1.1
  have hn := cw.1.hn
  have hp : a / 10 < vn V := by omega
  have hr : a % 10 ≤ 9 := by omega
  have r9 := (cw.1.1.2.1 (a / 10) hp).2.2.1
  have gs : gsB E S (idV V nI) a = (!decide (rk V (a / 10) = a % 10) && seB E S (rkV (idV V nI) (a / 10) (a % 10))) := rfl
  unfold f_X12_isGuess
  rw [show (10 : Int32) = nI 10 from rfl, pk_rem (by omega) (by omega) (by omega), pk_div (by omega) (by omega) (by omega)]
  simp (disch := omega) only [bnd_nr, li_0, li_1, li_2, li_3, li_4, li_5, li_6, li_7, li_8, li_9, li_10, li_11, li_12, li_13, li_14, li_15, li_16, li_17, li_18, li_19, li_20, li_21, li_22, li_23, li_24, li_25, li_26, li_27, li_28, li_29, li_30, li_31, li_32, li_33, li_34, li_35, li_36, li_37, li_38, li_39, li_40, li_41, li_42, li_43, li_44, li_45, li_46, li_47, li_48, li_49, li_50, li_51, li_52, li_53, li_54, li_55, li_56, li_57, li_58, li_59, li_60, li_61, li_62, li_63, li_64, li_74, li_86, li_87, li_88, li_96, li_97, li_98, li_99, li_100, li_101, li_102, li_103, li_104, li_105, li_107, li_108, li_109, li_110, li_111, li_112, li_114, li_115, li_116, li_117, li_118, li_121, li_122, li_124, li_136, li_148, li_160, li_680, li_200, li_201, li_255, li_700, li_950, li_1000, li_1400, li_3440, li_4096, li_9999, li_10000, li_20000, li_20033, li_20038, li_20124, li_32767, li_65535, li_1103515245, li_12345, li_m, sx_grd, sx_clamp, nI_add, sx_sub, pk_mul, sx_le, sx_lt, sx_eq, sx_eqm, sx_meq, sx_lem, sx_mle, sx_ltm, sx_mlt, sx_addm, sx_shl, sx_bit1, sx_bit0, fa_or, uA_s, uA_n, sA_s, sA_n, sx_uA, sx_uAn, sx_sAs, pk_us, pk_un, if_true, if_false, if_pos, if_neg, ob_some, Nat.add_zero, Nat.add_sub_cancel, eq_self, ne_eq, not_true, not_false_iff, false_or, true_or, or_false, or_true, false_and, true_and, and_false, and_true, vm.r0 _ hp]
  refine RT.ite (fun e => RT.done hQ ⟨?_, QF.refl M, rfl, fun g => ?_⟩) (fun e => ?_)
  · rw [gs, decide_eq_true e]; rfl
  · rw [gs, decide_eq_true e] at g; cases g
  · refine RT.bind (m_tries vm cw.1) (fun q ⟨q1, q2, q3⟩ => ?_)
    have q4 := q1.r8 (k := 136 + a / 10) (x := nI (a % 10)) (by omega)
    have q5 := q3.rk8 (p := a / 10) (r := a % 10) hp b0.1 (Nat.le_trans hn b0.1)
    have cwi : CW E (idV V nI) := ⟨cw.1.idv nI, cw.2.1, cw.2.2⟩
    refine RT.bind (m_isSeen q5 (cwi.rk hr) (ec.qf q4.qf) (s.qf q4.qf) sk) (fun r ⟨r1, r2, r3, r4⟩ => ?_)
    have g : gsB E S (idV V nI) a = seB E S (rkV (idV V nI) (a / 10) (a % 10)) := by rw [gs, decide_eq_false e]; rfl
    rw [← g] at r1 r4
    refine RT.grd (by rw [r1]; exact bz_01) (RT.done hQ ⟨r1, q4.qf.trans r2, ?_, r4⟩)
    rw [r3]
    exact q4.2.2.1 22 (by omega) (by omega) (by omega) (by omega)
theorem m_ranked0 {M : MS} {E : RE} {S : SN} {V : VT} {w0 : Int32} (vm : VM M 0 V) (cw : CW E V) (ec : EC E M) (s : SMo M S) (sk : SOK S (vn V)) : RT (f_X12_ranked_L45 w0 FUEL (nI 0) mO (nI 0) M) (fun q => q.1 = (if w0 = nI 0 then nI (gc E S (idV V nI) (10 * vn V)) else gf E S (idV V nI) (10 * vn V)) ∧ QF M q.2) := by
  refine RT.cps (fun Q hQ => ?_)
  have b0 := cw.1.1.1
  refine RT.loop0 (fun n a (y : Int32 × Int32 × MS) => f_X12_ranked_L45 w0 n y.1 y.2.1 (nI a) y.2.2) (10 * vn V) (fun a y => y.1 = nI (gc E S (idV V nI) a) ∧ y.2.1 = gf E S (idV V nI) a ∧ QF M y.2.2) Q (_, _, M) (by omega) ⟨rfl, rfl, QF.refl M⟩ ?_ ?_
  · intro n ⟨ya, yb, z⟩ ⟨y1, y2, y3⟩
    show RT (f_X12_ranked_L45 w0 (n + 1) ya yb (nI (10 * vn V)) z) _
    have vz : VM z 0 V := vm.qf cw.1 y3
    unfold f_X12_ranked_L45
    refine RT.itT (by rw [vz.1, show (10 : Int32) = nI 10 from rfl, pk_mul]; exact nI_le (Nat.le_refl _) (by omega)) ?_
    refine RT.ite (fun e => RT.done hQ ⟨?_, y3⟩) (fun e => RT.done hQ ⟨?_, y3⟩)
    · exact y1.trans (if_pos e).symm
    · exact y2.trans (if_neg e).symm
  · intro n a ⟨ya, yb, z⟩ ha ⟨y1, y2, y3⟩ hk
    show RT (f_X12_ranked_L45 w0 (n + 1) ya yb (nI a) z) _
    have vz : VM z 0 V := vm.qf cw.1 y3
    dsimp only at y1 y2 y3
    have cc := gc_succ (E := E) (S := S) (U := idV V nI) (a := a)
    have f1 : gf E S (idV V nI) (a + 1) = if gsB E S (idV V nI) a = true ∧ gf E S (idV V nI) a = mO then nI a else gf E S (idV V nI) a := rfl
    unfold f_X12_ranked_L45
    refine RT.itF (by rw [vz.1, show (10 : Int32) = nI 10 from rfl, pk_mul]; exact nI_ge ha (by omega)) ?_
    refine RT.bind (m_isGuess vz cw (ec.qf y3) (s.qf y3) sk ha) (fun q ⟨q1, q2, q3, q4⟩ => ?_)
    rw [q1]
    cases g : gsB E S (idV V nI) a
    · refine RT.itT rfl ?_
      rw [bnd_nr, nI_1]
      refine hk (_, _, _) ⟨?_, ?_, y3.trans q2⟩
      · rw [cc, g, if_neg (by decide)]; exact y1
      · rw [f1, g, if_neg (fun z => by cases z.1)]; exact y2
    · rw [g, if_pos rfl] at cc
      refine RT.itF (by decide) ?_
      rw [bnd_nr]
      refine RT.ite (fun e => ?_) (fun e => ?_)
      · rw [bnd_nr, nI_1]
        refine hk (_, nI a, _) ⟨?_, ?_, y3.trans q2⟩
        · rw [cc, y1]; exact nI_1 _
        · rw [f1, if_pos ⟨g, y2 ▸ e⟩]
      · rw [bnd_nr, nI_1]
        refine hk (_, _, _) ⟨?_, ?_, y3.trans q2⟩
        · rw [cc, y1]; exact nI_1 _
        · rw [f1, if_neg (fun z => e (y2 ▸ z.2))]; exact y2
/-- the first with the most sizes -/
def mu (f : Nat → Nat) : Nat → Int32 × Nat | 0 => (mO, 0) | p + 1 => if (mu f p).2 < f p then (nI p, f p) else mu f p
theorem mu_bd {f : Nat → Nat} {c : Nat} (h : ∀ p, f p ≤ c) : ∀ n, (mu f n).2 ≤ c
  | 0 => Nat.zero_le _
  | n + 1 => by
    rw [mu]
    split
    · exact h n
    · exact mu_bd h n
def gbc (E : RE) (S : SN) (U : VT) (p : Nat) : Nat := fb_ct (fun i => (gz E S U p (10 * vn U)).testBit i) 13
theorem gbc_le {E : RE} {S : SN} {U : VT} (p : Nat) : gbc E S U p ≤ 13 := fb_ct_le _ _
theorem mu_is {f : Nat → Nat} : ∀ n, n < 1000000 → ((mu f n).1 = mO ∧ (mu f n).2 = 0) ∨ ∃ p, p < n ∧ (mu f n).1 = nI p ∧ (mu f n).2 = f p
  | 0, _ => Or.inl ⟨rfl, rfl⟩
  | n + 1, h => by
    rw [mu]
    split
    · exact Or.inr ⟨n, by omega, rfl, rfl⟩
    · rcases mu_is (f := f) n (by omega) with z | ⟨p, p1, p2⟩
      · exact Or.inl z
      · exact Or.inr ⟨p, by omega, p2⟩
theorem c_unlike {E : RE} {S : SN} {U : VT} {z D Rp Rk T K : Ob} {p : Nat} (cw : CW E U) (gi : GI E S U true z (10 * vn U)) (hp : p < vn U) : f_X9_unlikeSizes z D Rp Rk T K (nI p) = some (nI (gbc E S U p)) := by
  have b0 := cw.1.1.1
  unfold f_X9_unlikeSizes
  rw [sx_grd (by omega) (by omega), sx_clamp (by omega), gi.2.2 rfl p hp, j_bitCount (gz_lt cw _), ob_some]
  rfl
theorem c_mostUnlike {E : RE} {S : SN} {U : VT} {z D Rp Rk T K : Ob} (cw : CW E U) (gi : GI E S U true z (10 * vn U)) : f_X9_mostUnlike z D Rp Rk T K (nI (vn U)) = some (mu (gbc E S U) (vn U)).1 := by
  refine RT.eq ?_
  refine RT.cps (fun Q hQ => ?_)
  have b0 := cw.1.1.1
  unfold f_X9_mostUnlike
  refine RT.loop0 (fun n p (y : Int32 × Int32) => f_X9_mostUnlike_L7 (nI (vn U)) z D Rp Rk T K n y.1 y.2 (nI p)) (vn U) (fun p y => y.1 = (mu (gbc E S U) p).1 ∧ y.2 = nI (mu (gbc E S U) p).2) Q (_, _) (by omega) ⟨rfl, rfl⟩ ?_ ?_
  · intro n ⟨ya, yb⟩ ⟨y1, y2⟩
    show RT (f_X9_mostUnlike_L7 (nI (vn U)) z D Rp Rk T K (n + 1) ya yb (nI (vn U))) _
    unfold f_X9_mostUnlike_L7
    exact RT.itT (nI_le (Nat.le_refl _) (by omega)) (RT.done hQ y1)
  · intro n p ⟨ya, yb⟩ hp ⟨y1, y2⟩ hk
    show RT (f_X9_mostUnlike_L7 (nI (vn U)) z D Rp Rk T K (n + 1) ya yb (nI p)) _
    dsimp only at y1 y2
    have bd := mu_bd (f := gbc E S U) gbc_le p
    have g9 := gbc_le (E := E) (S := S) (U := U) p
    have st : mu (gbc E S U) (p + 1) = if (mu (gbc E S U) p).2 < gbc E S U p then (nI p, gbc E S U p) else mu (gbc E S U) p := rfl
    unfold f_X9_mostUnlike_L7
    refine RT.itF (nI_ge hp (by omega)) ?_
    rw [c_unlike cw gi hp, ob_some, ob_some, bnd_nr, bnd_nr, nI_1, y1, y2]
    simp (disch := omega) only [sx_le]
    refine RT.ite (fun e => hk (_, nI (mu (gbc E S U) p).2) ?_) (fun e => hk (nI p, nI (gbc E S U p)) ?_)
    · rw [if_neg (by omega)] at st; exact ⟨by rw [st], by rw [st]⟩
    · rw [if_pos (by omega)] at st; exact ⟨by rw [st], by rw [st]⟩
def L22 (M r : MS) : Prop := r.1 = M.1 ∧ r.2.1 = M.2.1 ∧ ∀ j, j ≠ 22 → r.2.2 j = M.2.2 j
theorem L22.qf {M r : MS} (h : L22 M r) : QF M r := ⟨fun k _ => by rw [h.1], h.2.1, fun j _ h2 => by
  have := scA_ne h2
  exact h.2.2 j (by omega), fun i _ => by rw [h.2.2 10 (by omega)]⟩
theorem m_look0 {M : MS} {E : RE} {S : SN} {V : VT} {w0 : Int32} (vm : VM M 0 V) (cw : CW E V) (ec : EC E M) (s : SMo M S) (sk : SOK S (vn V)) : RT (f_X12_look_L18 w0 FUEL (nI 0) M) (fun q => q.1 = (if w0 = nI 0 then (mu (gbc E S (idV V nI)) (vn V)).1 else nI (mu (gbc E S (idV V nI)) (vn V)).2) ∧ QF M q.2) := by
  refine RT.cps (fun Q hQ => ?_)
  have b0 := cw.1.1.1
  have cwi : CW E (idV V nI) := ⟨cw.1.idv nI, cw.2.1, cw.2.2⟩
  refine RT.loop0 (fun n p (z : MS) => f_X12_look_L18 w0 n (nI p) z) (vn V) (fun p z => L22 M z ∧ ∀ q, q < p → z.2.2 22 q = nI 0) Q M (by omega) ⟨⟨rfl, rfl, fun _ _ => rfl⟩, fun q hq => absurd hq (Nat.not_lt_zero _)⟩ ?_ ?_
  · intro n z ⟨z1, z2⟩
    show RT (f_X12_look_L18 w0 (n + 1) (nI (vn V)) z) _
    have vz : VM z 0 V := vm.qf cw.1 z1.qf
    unfold f_X12_look_L18
    refine RT.itT (by rw [vz.1]; exact nI_le (Nat.le_refl _) (by omega)) ?_
    refine RT.loop0 (fun n a (x : MS) => f_X12_look_L41 w0 n (nI a) x) (10 * vn V) (fun a x => QF M x ∧ ∀ q, q < vn V → x.2.2 22 q = nI (gz E S (idV V nI) q a)) Q z (by omega) ⟨z1.qf, z2⟩ ?_ ?_
    · intro n x ⟨x1, x2⟩
      show RT (f_X12_look_L41 w0 (n + 1) (nI (10 * vn V)) x) _
      have vx : VM x 0 V := vm.qf cw.1 x1
      unfold f_X12_look_L41
      refine RT.itT (by rw [vx.1, show (10 : Int32) = nI 10 from rfl, pk_mul]; exact nI_le (Nat.le_refl _) (by omega)) ?_
      refine RT.loop0 (fun n p (y : Int32 × Int32) => f_X12_look_L106 w0 x n y.1 y.2 (nI p)) (vn V) (fun p y => y.1 = (mu (gbc E S (idV V nI)) p).1 ∧ y.2 = nI (mu (gbc E S (idV V nI)) p).2) Q (_, _) (by omega) ⟨rfl, rfl⟩ ?_ ?_
      · intro n ⟨ya, yb⟩ ⟨y1, y2⟩
        show RT (f_X12_look_L106 w0 x (n + 1) ya yb (nI (vn V))) _
        unfold f_X12_look_L106
        refine RT.itT (by rw [vx.1]; exact nI_le (Nat.le_refl _) (by omega)) ?_
        refine RT.ite (fun e => RT.done hQ ⟨?_, x1⟩) (fun e => RT.done hQ ⟨?_, x1⟩)
        · exact y1.trans (if_pos e).symm
        · exact y2.trans (if_neg e).symm
      · intro n p ⟨ya, yb⟩ hp ⟨y1, y2⟩ hk
        show RT (f_X12_look_L106 w0 x (n + 1) ya yb (nI p)) _
        dsimp only at y1 y2
        have bd := mu_bd (f := gbc E S (idV V nI)) gbc_le p
        have g9 := gbc_le (E := E) (S := S) (U := idV V nI) p
        have st : mu (gbc E S (idV V nI)) (p + 1) = if (mu (gbc E S (idV V nI)) p).2 < gbc E S (idV V nI) p then (nI p, gbc E S (idV V nI) p) else mu (gbc E S (idV V nI)) p := rfl
        have lt := gz_lt (S := S) (p := p) cwi (10 * vn V)
        have bt9 : f_X12_bits (nI (gz E S (idV V nI) p (10 * vn V))) = some (nI (gbc E S (idV V nI) p)) := g_bits (by omega)
        unfold f_X12_look_L106
        refine RT.itF (by rw [vx.1]; exact nI_ge hp (by omega)) ?_
        rw [sx_grd (by omega) (by omega), sx_grd (by omega) (by omega), sx_clamp (by omega), x2 p hp, bt9, ob_some, ob_some, bnd_nr, bnd_nr, nI_1, y1, y2]
        simp (disch := omega) only [sx_lt]
        refine RT.ite (fun e => hk (nI p, nI (gbc E S (idV V nI) p)) ?_) (fun e => hk (_, nI (mu (gbc E S (idV V nI)) p).2) ?_)
        · rw [if_pos e] at st; exact ⟨by rw [st], by rw [st]⟩
        · rw [if_neg e] at st; exact ⟨by rw [st], by rw [st]⟩
    · intro n a x ha ⟨x1, x2⟩ hk
      show RT (f_X12_look_L41 w0 (n + 1) (nI a) x) _
      have vx : VM x 0 V := vm.qf cw.1 x1
      have g1 : ∀ q, gz E S (idV V nI) q (a + 1) = if gsB E S (idV V nI) a then gz E S (idV V nI) q a ||| 2 ^ s5 E (rkV (idV V nI) (a / 10) (a % 10)) q else gz E S (idV V nI) q a := fun q => rfl
      unfold f_X12_look_L41
      refine RT.itF (by rw [vx.1, show (10 : Int32) = nI 10 from rfl, pk_mul]; exact nI_ge ha (by omega)) ?_
      refine RT.bind (m_isGuess vx cw (ec.qf x1) (s.qf x1) sk ha) (fun q ⟨q1, q2, q3, q4⟩ => ?_)
      rw [q1]
      cases g : gsB E S (idV V nI) a
      · refine RT.itT rfl ?_
        rw [bnd_nr, nI_1]
        refine hk _ ⟨x1.trans q2, fun p hp => ?_⟩
        rw [q3, g1, g, if_neg (by decide)]; exact x2 p hp
      · refine RT.itF (by decide) ?_
        have so := q4 g
        have cr : CW E (rkV (idV V nI) (a / 10) (a % 10)) := cwi.rk (by omega)
        have n5 : vn (It E (rkV (idV V nI) (a / 10) (a % 10)) 5) = vn V := (cr.it (E := E) (i := 5) (by omega)).2.2
        refine RT.loop0 (fun m p (u : MS) => f_X12_look_L62 (f_X12_look_L41 w0 n) w0 (nI a) m (nI p) u) (vn V) (fun p u => L22 q.2 u ∧ ∀ r, r < vn V → u.2.2 22 r = nI (if r < p then gz E S (idV V nI) r (a + 1) else gz E S (idV V nI) r a)) Q q.2 (by omega) ⟨⟨rfl, rfl, fun _ _ => rfl⟩, fun r hr => by rw [q3, if_neg (by omega)]; exact x2 r hr⟩ ?_ ?_
        · intro m u ⟨u1, u2⟩
          show RT (f_X12_look_L62 (f_X12_look_L41 w0 n) w0 (nI a) (m + 1) (nI (vn V)) u) _
          have qu := x1.trans (q2.trans u1.qf)
          have vu : VM u 0 V := vm.qf cw.1 qu
          unfold f_X12_look_L62
          refine RT.itT (by rw [vu.1]; exact nI_le (Nat.le_refl _) (by omega)) ?_
          rw [bnd_nr, nI_1]
          exact hk _ ⟨qu, fun r hr => by rw [u2 r hr, if_pos hr]⟩
        · intro m p u hp ⟨u1, u2⟩ hk2
          show RT (f_X12_look_L62 (f_X12_look_L41 w0 n) w0 (nI a) (m + 1) (nI p) u) _
          have qu := x1.trans (q2.trans u1.qf)
          have vu : VM u 0 V := vm.qf cw.1 qu
          have e1 : u.2.2 21 p = nI (s5 E (rkV (idV V nI) (a / 10) (a % 10)) p) := by rw [u1.2.2 21 (by omega)]; exact so p hp
          have e2 := u2 p hp
          rw [if_neg (by omega)] at e2
          have s9 := s5_le (E := E) (W := rkV (idV V nI) (a / 10) (a % 10)) (p := p)
          rw [n5] at s9
          unfold f_X12_look_L62
          refine RT.itF (by rw [vu.1]; exact nI_ge hp (by omega)) ?_
          simp (disch := omega) only [bnd_nr, li_0, li_1, li_2, li_3, li_4, li_5, li_6, li_7, li_8, li_9, li_10, li_11, li_12, li_13, li_14, li_15, li_16, li_17, li_18, li_19, li_20, li_21, li_22, li_23, li_24, li_25, li_26, li_27, li_28, li_29, li_30, li_31, li_32, li_33, li_34, li_35, li_36, li_37, li_38, li_39, li_40, li_41, li_42, li_43, li_44, li_45, li_46, li_47, li_48, li_49, li_50, li_51, li_52, li_53, li_54, li_55, li_56, li_57, li_58, li_59, li_60, li_61, li_62, li_63, li_64, li_74, li_86, li_87, li_88, li_96, li_97, li_98, li_99, li_100, li_101, li_102, li_103, li_104, li_105, li_107, li_108, li_109, li_110, li_111, li_112, li_114, li_115, li_116, li_117, li_118, li_121, li_122, li_124, li_136, li_148, li_160, li_680, li_200, li_201, li_255, li_700, li_950, li_1000, li_1400, li_3440, li_4096, li_9999, li_10000, li_20000, li_20033, li_20038, li_20124, li_32767, li_65535, li_1103515245, li_12345, li_m, sx_grd, sx_clamp, nI_add, sx_sub, pk_mul, sx_le, sx_lt, sx_eq, sx_eqm, sx_meq, sx_lem, sx_mle, sx_ltm, sx_mlt, sx_addm, sx_shl, sx_bit1, sx_bit0, fa_or, uA_s, uA_n, sA_s, sA_n, sx_uA, sx_uAn, sx_sAs, pk_us, pk_un, if_true, if_false, if_pos, if_neg, ob_some, Nat.add_zero, Nat.add_sub_cancel, eq_self, ne_eq, not_true, not_false_iff, false_or, true_or, or_false, or_true, false_and, true_and, and_false, and_true, e1, e2]
          refine hk2 _ ⟨⟨u1.1, u1.2.1, fun j hj => by simp only [uA_n hj]; exact u1.2.2 j hj⟩, fun r hr => ?_⟩
          simp only [uA_s]
          by_cases rp : r = p
          · subst rp; rw [pk_us, if_pos (by omega), g1, if_pos g]
          · rw [pk_un rp, u2 r hr]
            by_cases rl : r < p
            · rw [if_pos rl, if_pos (by omega)]
            · rw [if_neg rl, if_neg (by omega)]
  · intro n p z hp ⟨z1, z2⟩ hk
    show RT (f_X12_look_L18 w0 (n + 1) (nI p) z) _
    have vz : VM z 0 V := vm.qf cw.1 z1.qf
    unfold f_X12_look_L18
    refine RT.itF (by rw [vz.1]; exact nI_ge hp (by omega)) ?_
    rw [sx_grd (by omega) (by omega), bnd_nr, bnd_nr, nI_1, sx_clamp (by omega)]
    refine hk _ ⟨⟨z1.1, z1.2.1, fun j hj => by simp only [uA_n hj]; exact z1.2.2 j hj⟩, fun q hq => ?_⟩
    simp only [uA_s]
    by_cases qp : q = p
    · subst qp; exact pk_us
    · rw [pk_un qp]; exact z2 q (by omega)
