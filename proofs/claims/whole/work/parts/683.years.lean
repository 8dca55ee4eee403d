/-! years of chance -/
theorem b_32767 (i : Nat) : bt 32767 i = decide (i < 15) := by
  rcases Nat.lt_or_ge i 32 with h | h
  · exact (by decide +kernel : ∀ i, i < 32 → bt 32767 i = decide (i < 15)) i h
  · rw [b_big h, decide_eq_false (by omega)]
def dN (s : Int32) : Nat := (s >>> ((16 : Int32) &&& 31)).toBitVec.toNat % 32768
theorem dN_lt (s : Int32) : dN s < 32768 := Nat.mod_lt _ (by omega)
theorem nI_bv (x : Int32) : x = nI x.toBitVec.toNat := Int32.toBitVec_inj.mp (BitVec.eq_of_toNat_eq (by
  show _ = (BitVec.ofNat 32 x.toBitVec.toNat).toNat
  rw [BitVec.ofNat_toNat, BitVec.setWidth_eq]))
theorem dN_m (s : Int32) : (s >>> ((16 : Int32) &&& 31)) &&& (32767 : Int32) = nI (dN s) := by
  generalize h : s >>> ((16 : Int32) &&& 31) = y
  unfold dN
  rw [h]
  rw [show y &&& (32767 : Int32) = nI y.toBitVec.toNat &&& nI (2 ^ 15 - 1) from congrArg (· &&& (32767 : Int32)) (nI_bv y), fa_mask]
theorem dN_c (s : Int32) : (s.toUInt32 >>> ((16 : Int32).toUInt32 &&& Int32.toUInt32 31)).toInt32 &&& (32767 : Int32) = nI (dN s) := by
  rw [← dN_m]
  refine b_ext (fun i hi => ?_)
  rw [b_and, b_and, b_32767]
  by_cases h : i < 15
  · rw [show (16 : Int32) = nI 16 from rfl, b_ushr 16 (by omega), b_sshr 16 (by omega) _ hi, if_pos (by omega)]
  · rw [decide_eq_false h, Bool.and_false, Bool.and_false]
theorem rem_nI {a b : Nat} (ha : a < 32768) (hb : 0 < b) (hb2 : b < 2147483648) : nI a - nI a / nI b * nI b = nI (a % b) := pk_rem (by omega) hb (by omega)
theorem u8 {a : Nat → Int32} {B : Nat → Nat → Int32} {k : Nat} {x : Int32} : ((upd a k x, B) : Ob).1 k = x := by
  show upd a k x k = x
  exact pk_us
theorem c_draw {R : Int32 → Int32} (hR : ∀ x : Int32, x * 1103515245 + 12345 = R x) {v D Rp Rk T K : Ob} {b : Nat} (hb : 0 < b) (hb2 : b < 2147483648) : f_X9_draw v D Rp Rk T K (nI b) = some (nI (dN (R (v.1 8)) % b), (upd v.1 8 (R (v.1 8)), v.2)) := by
  unfold f_X9_draw
  rw [bnd_nr, if_neg (show ¬ nI b ≤ (0 : Int32) from (nI_ge hb (by omega) : ¬ nI b ≤ nI 0)), grd_d (show ¬ nI b = (0 : Int32) from fun z => by have := (nI_eq (b := 0) (by omega) (by omega)).mp z; omega)]
  simp only [pk_us, dN_c]
  rw [hR (v.1 8), rem_nI (dN_lt _) hb hb2]
theorem m_draw {R : Int32 → Int32} (hR : ∀ x : Int32, x * 1103515245 + 12345 = R x) {M : MS} {b : Nat} (hb : 0 < b) (hb2 : b < 2147483648) : f_X12_draw M (nI b) = some (nI (dN (R (M.1 52)) % b), (upd M.1 52 (R (M.1 52)), M.2)) := by
  unfold f_X12_draw
  rw [bnd_nr, grd_d (show ¬ nI b = (0 : Int32) from fun z => by have := (nI_eq (b := 0) (by omega) (by omega)).mp z; omega)]
  simp only [pk_us, dN_m]
  rw [hR (M.1 52), rem_nI (dN_lt _) hb hb2]
theorem cp_zero {V : VT} {p : Nat} (hp : p < vn V) (h12 : vn V ≤ 12) : cpN V p = 0 ↔ sz V (ho V p) = 1 := by
  have u := fb_ct_upd (fun q => decide (ho V q = ho V p)) false hp
  rw [if_pos (decide_eq_true rfl)] at u
  change fb_ct (fun k => if k = p then false else decide (ho V k = ho V p)) (vn V) + 1 = sz V (ho V p) + 0 at u
  have z : cpN V p = 0 ↔ fb_ct (fun k => if k = p then false else decide (ho V k = ho V p)) (vn V) = 0 := by
    rw [fb_ct_zero]
    constructor
    · intro h q hq
      have := anN_rm (a := dw V (ho V p)) (p := p) (q := q) (by omega)
      change (cpN V p).testBit q = _ at this
      rw [h, Nat.zero_testBit] at this
      unfold rmF at this
      by_cases e : q = p
      · rw [if_pos e]
      · rw [decide_eq_false e, Bool.not_false, Bool.and_true, dw_bit hq] at this
        rw [if_neg e]
        exact this.symm
    · intro h
      refine Nat.eq_of_testBit_eq (fun q => ?_)
      rw [Nat.zero_testBit]
      rcases Nat.lt_or_ge q 31 with z | z
      · show (anN (dw V (ho V p)) (2 ^ p)).testBit q = false
        rw [anN_rm z]
        unfold rmF
        by_cases e : q = p
        · rw [decide_eq_true e, Bool.not_true, Bool.and_false]
        · rw [decide_eq_false e, Bool.not_false, Bool.and_true]
          unfold dw
          rw [msk_bit]
          rcases Nat.lt_or_ge q (vn V) with y | y
          · have := h q y
            rw [if_neg e] at this
            rw [this, Bool.and_false]
          · rw [decide_eq_false (by omega)]; rfl
      · exact anN_big z
  rw [z]
  omega
/-- what happens in a year -/
def hap (R : Int32 → Int32) (U : VT) (s : Int32) : VT × Int32 := if 2 < dN (R s) % 6 ∨ vn U = 0 then (U, R s) else if dN (R s) % 6 = 2 then (if dN (R (R s)) % vh U = 0 then (U, R (R s)) else (dropV (jnV U (dN (R (R s)) % vh U) 0), R (R s))) else if dN (R s) % 6 = 1 then (rkV U (dN (R (R s)) % vn U) (dN (R (R (R s))) % 10), R (R (R s))) else if sz U (ho U (dN (R (R s)) % vn U)) = 1 then (U, R (R s)) else (fdV U (dN (R (R s)) % vn U), R (R s))
theorem vh_pos {U : VT} (w : WFV U) (h : vn U ≠ 0) : 0 < vh U := by
  have := (w.1.2.1 0 (by omega)).1
  omega
theorem hap_wf {R : Int32 → Int32} {U : VT} {s : Int32} (w : WFV U) : WFV (hap R U s).1 ∧ ve (hap R U s).1 = ve U ∧ vn (hap R U s).1 = vn U := by
  unfold hap
  split
  · exact ⟨w, rfl, rfl⟩
  · rename_i n0
    have n1 : vn U ≠ 0 := fun z => n0 (Or.inr z)
    have hp := vh_pos w n1
    split
    · split
      · exact ⟨w, rfl, rfl⟩
      · rename_i h
        exact ⟨WFV_jnd w (Nat.mod_lt _ hp) hp h, rfl, rfl⟩
    · split
      · exact ⟨WFV_rk w (by omega), rfl, rfl⟩
      · split
        · exact ⟨w, rfl, rfl⟩
        · rename_i h
          exact ⟨WFV_fd w (Nat.mod_lt _ (by omega)) h, rfl, rfl⟩
def yst (E : RE) (n : Nat) (X : VT × Int32) (c : Nat) : (VT × Int32) × Nat := ((eN E X.1, X.2), c + pcn (msk (gN E X.1) n))
def ysh (R : Int32 → Int32) (E : RE) (n : Nat) (Y : (VT × Int32) × Nat) : (VT × Int32) × Nat := yst E n (hap R Y.1.1 Y.1.2) Y.2
def yrS (R : Int32 → Int32) (E : RE) (U : VT) (s : Int32) : Nat → (VT × Int32) × Nat | 0 => ((U, s), 0) | i + 1 => ysh R E (vn U) (yrS R E U s i)
theorem yrS_s {R : Int32 → Int32} {E : RE} {U : VT} {s : Int32} {i : Nat} : yrS R E U s (i + 1) = ysh R E (vn U) (yrS R E U s i) := rfl
theorem ysh_is {R : Int32 → Int32} {E : RE} {n : Nat} {Y : (VT × Int32) × Nat} {X : VT × Int32} (h : hap R Y.1.1 Y.1.2 = X) : ysh R E n Y = ((eN E X.1, X.2), Y.2 + pcn (msk (gN E X.1) n)) := by
  unfold ysh
  rw [h]; rfl
theorem yrS_wf {R : Int32 → Int32} {E : RE} {U : VT} {s : Int32} (cw : CW E U) (i : Nat) : i ≤ 100 → WFV (yrS R E U s i).1.1 ∧ ve (yrS R E U s i).1.1 = ve U + i ∧ vn (yrS R E U s i).1.1 = vn U := by
  induction i with
  | zero => intro _; exact ⟨cw.1, rfl, rfl⟩
  | succ i ih =>
    intro h
    obtain ⟨a, b, c⟩ := ih (by omega)
    have e9 := cw.2.1
    obtain ⟨d, e, f⟩ := hap_wf (R := R) (s := (yrS R E U s i).1.2) a
    rw [yrS_s]
    generalize yrS R E U s i = Y at *
    generalize hX : hap R Y.1.1 Y.1.2 = X at *
    rw [ysh_is hX]
    refine ⟨WFV_ev d (GOK_go d.1) (by omega), ?_, ?_⟩
    · show ve X.1 + 1 = _
      omega
    · show vn X.1 = _
      omega
theorem c_befall {R : Int32 → Int32} (hR : ∀ x : Int32, x * 1103515245 + 12345 = R x) {U : VT} {v D Rp Rk T K : Ob} {s : Int32} (c : VC T U) (w : WFV U) (h8 : v.1 8 = R s) : RT (f_X9_befall v D Rp Rk T K (nI (dN (R s) % 6))) (fun q => VC q.2 (hap R U s).1 ∧ q.1.1 8 = (hap R U s).2) := by
  refine RT.cps (fun Q hQ => ?_)
  have b0 := w.1.1
  have hn := w.hn
  have m6 : dN (R s) % 6 < 6 := Nat.mod_lt _ (by omega)
  unfold f_X9_befall
  rw [c.1.1]
  by_cases n0 : vn U = 0
  · refine RT.itT (by rw [n0]; rfl) (RT.done hQ ?_)
    unfold hap; rw [if_pos (Or.inr n0)]
    exact ⟨c, h8⟩
  · have hp := vh_pos w n0
    refine RT.itF (fun z => n0 ((nI_eq (b := 0) (by omega) (by omega)).mp z)) ?_
    have dr : ∀ b, 0 < b → b < 2147483648 → f_X9_draw v D Rp Rk T K (nI b) = some (nI (dN (R (R s)) % b), (upd v.1 8 (R (R s)), v.2)) := fun b h1 h2 => by rw [c_draw hR h1 h2, h8]
    refine RT.ite (fun z => ?_) (fun z => RT.ite (fun z1 => ?_) (fun z1 => RT.ite (fun z2 => ?_) (fun z2 => ?_)))
    · have z0 : dN (R s) % 6 = 0 := (nI_eq (b := 0) (by omega) (by omega)).mp z
      have hl : dN (R (R s)) % vn U < vn U := Nat.mod_lt _ (by omega)
      rw [dr _ (by omega) (by omega), ob_some, c_isAlone c w hl, ob_some]
      by_cases al : sz U (ho U (dN (R (R s)) % vn U)) = 1
      · rw [if_pos al]
        refine RT.itF (by decide) (RT.done hQ ?_)
        unfold hap
        rw [if_neg (by omega), if_neg (by omega), if_neg (by omega), if_pos al]
        exact ⟨c, u8⟩
      · rw [if_neg al]
        refine RT.itT rfl (RT.bind (c_foundBy c w hl al) (fun q hq => RT.done hQ ?_))
        unfold hap
        rw [if_neg (by omega), if_neg (by omega), if_neg (by omega), if_neg al]
        exact ⟨hq, u8⟩
    · have z0 : dN (R s) % 6 = 1 := (nI_eq (b := 1) (by omega) (by omega)).mp z1
      have hl : dN (R (R s)) % vn U < vn U := Nat.mod_lt _ (by omega)
      rw [dr _ (by omega) (by omega), ob_some, show (10 : Int32) = nI 10 from rfl, c_draw hR (by omega) (by omega), ob_some, sx_grd (by omega) (by omega), bnd_nr, sx_clamp (by omega)]
      refine RT.done hQ ?_
      unfold hap
      rw [if_neg (by omega), if_neg (by omega), if_pos z0]
      simp only [pk_us]
      refine ⟨⟨c.1, fun o ho9 => ?_, c.2.2⟩, trivial⟩
      obtain ⟨h1, h2⟩ := c.2.1 o ho9
      refine ⟨?_, h2⟩
      show uA T.2 1 (dN (R (R s)) % vn U) (nI (dN (R (R (R s))) % 10)) 1 o = nI (if o = dN (R (R s)) % vn U then dN (R (R (R s))) % 10 else rk U o)
      by_cases e : o = dN (R (R s)) % vn U
      · rw [if_pos e, e, uA_s, pk_us]
      · rw [uA_s, pk_un e, if_neg e]; exact h1
    · have z0 : dN (R s) % 6 = 2 := (nI_eq (b := 2) (by omega) (by omega)).mp z2
      have hl : dN (R (R s)) % vh U < vh U := Nat.mod_lt _ hp
      rw [c.1.2.1, dr _ (by omega) (by omega), ob_some]
      by_cases h0 : dN (R (R s)) % vh U = 0
      · refine RT.itT (by rw [h0]; rfl) (RT.done hQ ?_)
        unfold hap
        rw [if_neg (by omega), if_pos z0, if_pos h0]
        exact ⟨c, u8⟩
      · refine RT.itF (fun z => h0 ((nI_eq (b := 0) (by omega) (by omega)).mp z)) ?_
        refine RT.bind (c_joinTo c w hl hp h0) (fun q hq => RT.done hQ ?_)
        unfold hap
        rw [if_neg (by omega), if_pos z0, if_neg h0]
        exact ⟨hq, u8⟩
    · refine RT.done hQ ?_
      have z0 : dN (R s) % 6 ≠ 0 := fun h => z (by rw [h]; rfl)
      have z3 : dN (R s) % 6 ≠ 1 := fun h => z1 (by rw [h]; rfl)
      have z4 : dN (R s) % 6 ≠ 2 := fun h => z2 (by rw [h]; rfl)
      unfold hap
      rw [if_pos (Or.inl (by omega))]
      exact ⟨c, h8⟩
def yA (R : Int32 → Int32) (E : RE) (U : VT) (s : Int32) (n : Nat) (w0 : Nat) : Int32 := if w0 = 0 then nI (yrS R E U s n).2 else if w0 = 1 then nI (vh (yrS R E U s n).1.1) else nI (mx (sz (yrS R E U s n).1.1) (vh (yrS R E U s n).1.1))
theorem c_liveYears {R : Int32 → Int32} (hR : ∀ x : Int32, x * 1103515245 + 12345 = R x) {E : RE} {U : VT} {v D Rp Rk T K N0 : Ob} {s : Int32} {n w0 : Nat} (c : VC N0 U) (cw : CW E U) (h1 : RCo Rp E.1) (h2 : RCo Rk E.2) (hn : n ≤ 100) (hw : w0 ≤ 2) : RT (f_X9_liveYears v D Rp Rk T K N0 s (nI n) (nI w0)) (fun q => q.1 = yA R E U s n w0 ∧ RCo q.2.2.2.1 E.1 ∧ RCo q.2.2.2.2.1 E.2) := by
  refine RT.cps (fun Q hQ => ?_)
  unfold f_X9_liveYears
  rw [bnd_nr]
  refine RT.bind (c_copyFrom c cw.1.1) (fun q hq => ?_)
  refine RT.loop0 (fun k i (y : Int32 × Ob × Ob × Ob × Ob × Ob) => f_X9_liveYears_L19 (nI n) (nI w0) K N0 k y.1 (nI i) y.2.1 y.2.2.1 y.2.2.2.1 y.2.2.2.2.1 y.2.2.2.2.2) n (fun i y => y.1 = nI (yrS R E U s i).2 ∧ y.2.1.1 8 = (yrS R E U s i).1.2 ∧ RCo y.2.2.2.1 E.1 ∧ RCo y.2.2.2.2.1 E.2 ∧ VC y.2.2.2.2.2 (yrS R E U s i).1.1) Q (_, _, D, Rp, Rk, q) (by omega) ⟨rfl, u8, h1, h2, hq⟩ ?_ ?_
  · intro k ⟨ya, yv, yD, yP, yK, yT⟩ ⟨y1, y2, y3, y4, y5⟩
    show RT (f_X9_liveYears_L19 (nI n) (nI w0) K N0 (k + 1) ya (nI n) yv yD yP yK yT) _
    obtain ⟨a, b, _⟩ := yrS_wf (R := R) (s := s) cw n hn
    unfold f_X9_liveYears_L19
    refine RT.itT (nI_le (Nat.le_refl _) (by omega)) ?_
    refine RT.ite (fun z => RT.done hQ ⟨?_, y3, y4⟩) (fun z => RT.ite (fun z1 => RT.done hQ ⟨?_, y3, y4⟩) (fun z1 => ?_))
    · have : w0 = 0 := (nI_eq (b := 0) (by omega) (by omega)).mp z
      unfold yA; rw [if_pos this]; exact y1
    · have : w0 = 1 := (nI_eq (b := 1) (by omega) (by omega)).mp z1
      unfold yA; rw [if_neg (by omega), if_pos this]; exact y5.1.2.1
    · rw [show f_X10_greatest yT = _ from c_greatest y5 a, ob_some]
      refine RT.done hQ ⟨?_, y3, y4⟩
      unfold yA
      rw [if_neg (fun h => z (by rw [h]; rfl)), if_neg (fun h => z1 (by rw [h]; rfl))]
  · intro k i ⟨ya, yv, yD, yP, yK, yT⟩ hi ⟨y1, y2, y3, y4, y5⟩ hk
    show RT (f_X9_liveYears_L19 (nI n) (nI w0) K N0 (k + 1) ya (nI i) yv yD yP yK yT) _
    dsimp only at y1 y2 y3 y4 y5
    obtain ⟨a, b, cn⟩ := yrS_wf (R := R) (s := s) cw i (by omega)
    obtain ⟨d, e, f⟩ := hap_wf (R := R) (s := (yrS R E U s i).1.2) a
    have e9 := cw.2.1
    unfold f_X9_liveYears_L19
    refine RT.itF (nI_ge hi (by omega)) ?_
    rw [show (6 : Int32) = nI 6 from rfl, c_draw hR (by omega) (by omega), ob_some, y2]
    refine RT.bind (c_befall hR (s := (yrS R E U s i).1.2) y5 a u8) (fun r ⟨r1, r2⟩ => ?_)
    refine RT.bind (c_pass0 r1 d cw.2.2 y3 y4 (by omega)) (fun u ⟨u1, u2, u3, u4⟩ => ?_)
    have st := yrS_s (R := R) (E := E) (U := U) (s := s) (i := i)
    generalize yrS R E U s i = Y at *
    generalize hX : hap R Y.1.1 Y.1.2 = X at *
    rw [ysh_is hX] at st
    have ml : msk (gN E X.1) (vn X.1) < 8192 := Nat.lt_of_lt_of_le (msk_lt _ _) (show 2 ^ _ ≤ 2 ^ 13 from Nat.pow_le_pow_right (by omega) (by have := d.1.1; omega))
    rw [u1, j_bitCount ml, ob_some, bnd_nr, bnd_nr, nI_1, y1, nI_add]
    refine hk (nI (Y.2 + pcn (msk (gN E X.1) (vn X.1))), _, _, _, _, _) ⟨?_, ?_, u2, u3, ?_⟩
    · rw [st, f, cn]
    · rw [st]; exact r2
    · rw [st]; exact u4
theorem QF.u52 {M r : MS} (h : QF M r) {x : Int32} : QF M (upd r.1 52 x, r.2) := ⟨fun k hk => by
  show upd r.1 52 x k = _
  rw [pk_un (scI_41 hk).2.2]; exact h.1 k hk, h.2.1, h.2.2.1, h.2.2.2⟩
theorem VM.u52 {M : MS} {b : Nat} {V : VT} (h : VM M b V) {x : Int32} : VM (upd M.1 52 x, M.2) b V := ⟨by
  show upd M.1 52 x 1 = _
  rw [pk_un (by omega)]; exact h.1, h.2⟩
theorem m_happens {R : Int32 → Int32} (hR : ∀ x : Int32, x * 1103515245 + 12345 = R x) {M : MS} {U : VT} {s : Int32} (v : VM M 86 U) (w : WFV U) (h52 : M.1 52 = s) : RT (f_X12_happens M) (fun r => QF M r ∧ VM r 86 (hap R U s).1 ∧ r.1 52 = (hap R U s).2) := by
  refine RT.cps (fun Q hQ => ?_)
  have b0 := w.1.1
  have hn := w.hn
  have m6 : dN (R s) % 6 < 6 := Nat.mod_lt _ (by omega)
  unfold f_X12_happens
  rw [show (6 : Int32) = nI 6 from rfl, m_draw hR (by omega) (by omega), ob_some, h52]
  have q1 := (QF.refl M).u52 (x := R s)
  have v1 := v.u52 (x := R s)
  have s1 : ((upd M.1 52 (R s), M.2) : MS).1 52 = R s := by show upd M.1 52 (R s) 52 = _; exact pk_us
  show RT (if nI 2 < nI (dN (R s) % 6) then some ((upd M.1 52 (R s), M.2) : MS) else _) Q
  generalize ((upd M.1 52 (R s), M.2) : MS) = N at *
  by_cases z2 : 2 < dN (R s) % 6
  · refine RT.itT (nI_lt z2 (by omega)) (RT.done hQ ?_)
    unfold hap; rw [if_pos (Or.inl z2)]
    exact ⟨q1, v1, s1⟩
  · refine RT.itF (nI_nlt (by omega) (by omega)) ?_
    show RT (if N.1 1 = 0 then some N else _) Q
    by_cases n0 : vn U = 0
    · refine RT.itT (by rw [v1.1, n0]; rfl) (RT.done hQ ?_)
      unfold hap; rw [if_pos (Or.inr n0)]
      exact ⟨q1, v1, s1⟩
    · have hp := vh_pos w n0
      refine RT.itF (by rw [v1.1]; exact fun z => n0 ((nI_eq (b := 0) (by omega) (by omega)).mp z)) ?_
      have dr : ∀ b, 0 < b → b < 2147483648 → f_X12_draw N (nI b) = some (nI (dN (R (R s)) % b), (upd N.1 52 (R (R s)), N.2)) := fun b h1 h2 => by rw [m_draw hR h1 h2, s1]
      have q2 := q1.u52 (x := R (R s))
      have v2 := v1.u52 (x := R (R s))
      have s2 : ((upd N.1 52 (R (R s)), N.2) : MS).1 52 = R (R s) := by show upd N.1 52 (R (R s)) 52 = _; exact pk_us
      have e87 : N.2.2 10 87 = nI (vh U) := v1.n8
      refine RT.ite (fun z => ?_) (fun z => ?_)
      · have z0 : dN (R s) % 6 = 2 := (nI_eq (b := 2) (by omega) (by omega)).mp z
        have hl : dN (R (R s)) % vh U < vh U := Nat.mod_lt _ hp
        refine RT.grd (by decide) ?_
        rw [show ((87 : Int32)).toNatClampNeg = 87 from rfl, e87, dr _ (by omega) (by omega), ob_some]
        show RT (if nI (dN (R (R s)) % vh U) ≤ nI 0 then some ((upd N.1 52 (R (R s)), N.2) : MS) else (f_X12_joins ((upd N.1 52 (R (R s)), N.2) : MS) _ _ _).bind _) Q
        generalize ((upd N.1 52 (R (R s)), N.2) : MS) = P at *
        by_cases h0 : dN (R (R s)) % vh U = 0
        · refine RT.itT (by rw [h0]; decide) (RT.done hQ ?_)
          unfold hap
          rw [if_neg (by omega), if_pos z0, if_pos h0]
          exact ⟨q2, v2, s2⟩
        · refine RT.itF (nI_ge (by omega) (by omega)) ?_
          refine RT.bind (m_joins (b := 86) (c := 0) v2 w (by omega) hl hp h0) (fun r hr => RT.done hQ ?_)
          unfold hap
          rw [if_neg (by omega), if_pos z0, if_neg h0]
          have w2 := WFV_jnd w hl hp h0
          exact ⟨q2.trans hr.qf, hr.vm w2.1.1.1 (Nat.le_trans w2.hn w2.1.1.1) v2.1, by rw [hr.1]; exact s2⟩
      · have z9 : dN (R s) % 6 ≠ 2 := fun h => z (by rw [h]; rfl)
        have hl : dN (R (R s)) % vn U < vn U := Nat.mod_lt _ (by omega)
        rw [v1.1, dr _ (by omega) (by omega), ob_some]
        show RT (if nI (dN (R s) % 6) = nI 1 then (f_X12_draw ((upd N.1 52 (R (R s)), N.2) : MS) (nI 10)).bind _ else (f_X12_withOne ((upd N.1 52 (R (R s)), N.2) : MS) _ _).bind _) Q
        have ag : RT (if nI (dN (R s) % 6) = nI 1 then (f_X12_draw ((upd N.1 52 (R (R s)), N.2) : MS) (nI 10)).bind (fun q10 => grd (vi (nI 136 + nI (dN (R (R s)) % vn U)) 172) (some ((q10.2.1, q10.2.2.1, uA q10.2.2.2 10 (nI 136 + nI (dN (R (R s)) % vn U)).toNatClampNeg q10.1) : MS))) else (f_X12_withOne ((upd N.1 52 (R (R s)), N.2) : MS) (nI 86) (nI (dN (R (R s)) % vn U))).bind (fun q7 => if q7 = nI 0 then some ((upd N.1 52 (R (R s)), N.2) : MS) else (f_X12_foundsBy ((upd N.1 52 (R (R s)), N.2) : MS) (nI 86) (nI (dN (R (R s)) % vn U))).bind (fun q9 => some q9))) Q := by
          generalize ((upd N.1 52 (R (R s)), N.2) : MS) = P at *
          refine RT.ite (fun z1 => ?_) (fun z1 => ?_)
          · rw [nI_eq (by omega) (by omega)] at z1
            rw [m_draw hR (by omega) (by omega), ob_some, nI_add, sx_grd (by omega) (by omega), sx_clamp (by omega), s2]
            have v3 := (v2.u52 (x := R (R (R s)))).rk8 (p := dN (R (R s)) % vn U) (r := dN (R (R (R s))) % 10) hl b0.1 (Nat.le_trans hn b0.1)
            refine RT.done hQ ?_
            unfold hap
            rw [if_neg (by omega), if_neg (by omega), if_pos z1]
            refine ⟨⟨(q2.u52 (x := R (R (R s)))).1, q2.2.1, fun j j1 j2 => ?_, fun i hi => ?_⟩, v3, ?_⟩
            · simp only [uA_n j1]; exact q2.2.2.1 j j1 j2
            · simp only [uA_s, pk_un (show i ≠ 136 + dN (R (R s)) % vn U by omega)]; exact q2.2.2.2 i hi
            · show upd P.1 52 (R (R (R s))) 52 = R (R (R s))
              exact pk_us
          · rw [nI_eq (by omega) (by omega)] at z1
            have lt := cpN_lt (V := U) (p := dN (R (R s)) % vn U)
            have p12 : 2 ^ vn U ≤ 2 ^ 12 := Nat.pow_le_pow_right (by omega) b0.1
            rw [m_withOne v2 w.1 (by omega) hl, ob_some]
            by_cases al : sz U (ho U (dN (R (R s)) % vn U)) = 1
            · refine RT.itT (by rw [(cp_zero hl b0.1).mpr al]) (RT.done hQ ?_)
              unfold hap
              rw [if_neg (by omega), if_neg (by omega), if_neg (by omega), if_pos al]
              exact ⟨q2, v2, s2⟩
            · refine RT.itF (fun h => al ((cp_zero hl b0.1).mp ((nI_eq (by omega) (by omega)).mp h))) ?_
              have w2 := WFV_fd w hl al
              have h11 : vh U + 1 ≤ vn U := w2.hn
              refine RT.bind (m_foundsBy (b := 86) v2 w (by omega) hl (by omega)) (fun r hr => RT.done hQ ?_)
              unfold hap
              rw [if_neg (by omega), if_neg (by omega), if_neg (by omega), if_neg al]
              exact ⟨q2.trans hr.qf, hr.vm w2.1.1.1 (Nat.le_trans w2.hn w2.1.1.1) v2.1, by rw [hr.1]; exact s2⟩
        exact ag
theorem m_years0 {R : Int32 → Int32} (hR : ∀ x : Int32, x * 1103515245 + 12345 = R x) {M : MS} {E : RE} {V : VT} {s : Int32} {n w0 : Nat} (v : VM M 86 (idV V nI)) (cw : CW E V) (ec : EC E M) (h52 : M.1 52 = s) (hn : n ≤ 100) (hw : w0 ≤ 2) : RT (f_X12_years_L41 (nI n) (nI w0) FUEL (nI 0) (nI 0) M) (fun q => q.1 = yA R E (idV V nI) s n w0 ∧ QF M q.2) := by
  refine RT.cps (fun Q hQ => ?_)
  have cwi : CW E (idV V nI) := ⟨cw.1.idv nI, cw.2.1, cw.2.2⟩
  refine RT.loop0 (fun k i (y : Int32 × MS) => f_X12_years_L41 (nI n) (nI w0) k y.1 (nI i) y.2) n (fun i y => y.1 = nI (yrS R E (idV V nI) s i).2 ∧ QF M y.2 ∧ y.2.1 52 = (yrS R E (idV V nI) s i).1.2 ∧ VM y.2 86 (yrS R E (idV V nI) s i).1.1) Q (_, M) (by omega) ⟨rfl, QF.refl M, h52, v⟩ ?_ ?_
  · intro k ⟨ya, z⟩ ⟨y1, y2, y3, y4⟩
    show RT (f_X12_years_L41 (nI n) (nI w0) (k + 1) ya (nI n) z) _
    obtain ⟨a, b, _⟩ := yrS_wf (R := R) (s := s) cwi n hn
    unfold f_X12_years_L41
    refine RT.itT (nI_le (Nat.le_refl _) (by omega)) ?_
    refine RT.ite (fun x => RT.done hQ ⟨?_, y2⟩) (fun x => RT.ite (fun x1 => RT.grd (by decide) (RT.done hQ ⟨?_, y2⟩)) (fun x1 => ?_))
    · have : w0 = 0 := (nI_eq (b := 0) (by omega) (by omega)).mp x
      unfold yA; rw [if_pos this]; exact y1
    · have : w0 = 1 := (nI_eq (b := 1) (by omega) (by omega)).mp x1
      unfold yA; rw [if_neg (by omega), if_pos this]; exact y4.n8
    · refine RT.bind (m_greatest (b := 86) y4 a (by omega)) (fun r ⟨r1, r2⟩ => RT.done hQ ⟨?_, y2.trans r2.qf⟩)
      unfold yA
      rw [if_neg (fun h => x (by rw [h]; rfl)), if_neg (fun h => x1 (by rw [h]; rfl))]
      exact r1
  · intro k i ⟨ya, z⟩ hi ⟨y1, y2, y3, y4⟩ hk
    show RT (f_X12_years_L41 (nI n) (nI w0) (k + 1) ya (nI i) z) _
    dsimp only at y1 y2 y3 y4
    obtain ⟨a, b, cn⟩ := yrS_wf (R := R) (s := s) cwi i (by omega)
    obtain ⟨d, e, f⟩ := hap_wf (R := R) (s := (yrS R E (idV V nI) s i).1.2) a
    have e9 := cwi.2.1
    unfold f_X12_years_L41
    refine RT.itF (nI_ge hi (by omega)) ?_
    refine RT.bind (m_happens hR y4 a y3) (fun r ⟨r1, r2, r3⟩ => ?_)
    refine RT.bind (m_ev86 r2 d (ec.qf (y2.trans r1)) cw.2.2 (by omega)) (fun u ⟨u1, u2, u3⟩ => ?_)
    have st := yrS_s (R := R) (E := E) (U := idV V nI) (s := s) (i := i)
    generalize yrS R E (idV V nI) s i = Y at *
    generalize hX : hap R Y.1.1 Y.1.2 = X at *
    rw [ysh_is hX] at st
    have ml : msk (gN E X.1) (vn X.1) < 8192 := Nat.lt_of_lt_of_le (msk_lt _ _) (show 2 ^ _ ≤ 2 ^ 13 from Nat.pow_le_pow_right (by omega) (by have := d.1.1; omega))
    rw [u2, g_bits (by omega), ob_some, bnd_nr, bnd_nr, nI_1, y1, nI_add]
    refine hk (nI (Y.2 + pcn (msk (gN E X.1) (vn X.1))), _) ⟨?_, (y2.trans r1).trans u1.qf, ?_, ?_⟩
    · rw [st, f, cn]
    · rw [st]
      show u.1 52 = X.2
      rw [u1.1 52 (by omega)]; exact r3
    · rw [st]; exact u3
