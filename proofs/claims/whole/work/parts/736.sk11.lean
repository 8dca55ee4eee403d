theorem cpg_n {n : Nat} (h : n ≤ 700) : cpg 0 0 (nI n) 700 700 = true := by
  unfold cpg
  rw [decide_eq_true (show (0 : Int32) ≤ 0 by decide), decide_eq_true (show (0 : Int32) ≤ nI n from nI_le (a := 0) (Nat.zero_le _) (by omega)), sx_clamp (by omega), decide_eq_true (show (0 : Int32).toNatClampNeg + n ≤ 700 by show 0 + n ≤ 700; omega)]
  rfl
theorem c_rcopy {o R : Ob} {r : RLs} {lo hi : Nat} (h : RCn R r) (ok : RLok r lo hi) : RT (f_X7_copyFrom o R) (fun y => RCo y (ru r)) := by
  have ln : r.2.length ≤ 700 := by
    cases e : r.1 with
    | true => exact (ok e).1
    | false => rw [h.2.2.2 e]; exact Nat.zero_le _
  refine RT.cps (fun Q hQ => ?_)
  unfold f_X7_copyFrom
  refine RT.grd (by rw [h.1]; exact bz_01) (RT.bnd (RT.bnd (RT.grd (by rw [h.2.1]; exact cpg_n ln) (RT.bnd (RT.done hQ ⟨?_, fun e => ⟨?_, fun i hi => ?_⟩⟩)))))
  · show upd (upd o.1 0 (R.1 0)) 1 (R.1 1) 0 = _
    rw [pk_un (by omega), pk_us]; exact h.1
  · show upd (upd o.1 0 (R.1 0)) 1 (R.1 1) 1 = _
    rw [pk_us]; exact h.2.1
  · have hi : i < r.2.length := hi
    show va_cpy (R.2 1) (o.2 1) 0 0 (R.1 1).toNatClampNeg i = _
    rw [h.2.1, sx_clamp (by omega), cpy0 hi]
    exact (h.2.2.1 e).2 i hi
section SKS
variable {V : VT} {E : RE} {F : FD} {S : SN} {A : AC} {IB : Bool} {I : IG} {T : Nat → Nat} {k : Nat} {z : LZ} {ar : Nat → Int32}
theorem g_village (h : IV V E F S A IB I T k z) : GD SK_village z ar := by
  have h9 := h
  obtain ⟨pu, ⟨N, wc⟩, kx, mX, mi⟩ := h9
  have cw := pu.1
  have fok := pu.2.1
  have sok := pu.2.2.1
  have n12 := cw.1.1.1.1
  have h12 := Nat.le_trans cw.1.hn n12
  have e9 := cw.2.1
  obtain ⟨n1, n2, n3⟩ := wc.n
  have c0 := wc.c0
  have f0 : 0 < z.1.2.2.2.1.1 := by omega
  have m1 := mX.u0 (x := nI 0)
  have wi := wc.id (f := nI)
  have ci := cw.id
  have c0i := wi.c0
  have k1 := mi.1.1
  have k8 := mi.1.2.1
  have k7 := mi.1.2.2
  have mr0 : f_X12_right ((upd z.2.1.1 0 (nI 0), z.2.1.2) : MS) (nI 0) (nI 1) = some (0, ((upd (upd z.2.1.1 0 (nI 0)) 0 (nI 1), z.2.1.2) : MS)) := m_right0 u00 (by decide)
  rcases Classical.em (∃ e, 0 ≤ e ∧ e ≤ k ∧ ar 1 = nI e) with ⟨n, _, hn, en⟩ | b1
  · obtain ⟨r, er, q, eq, fv⟩ := l_village (v := z.1.1 2) (vv := z.1.1 3) (vf := z.1.1 4) (vp := z.1.1 5) (vk := z.1.1 6) mi.2.1 k8 k7 hn
    obtain ⟨⟨⟨v0, v8⟩, vi9, va9⟩, fv⟩ := fv
    have hz : ∀ k, k = 39 ∨ k = 40 ∨ k = 54 ∨ k = 55 → q.2.1 k = z.2.1.1 k := fun k hk => vi9 k (by omega)
    have cn : ¬ nI n < (0 : Int32) := nneg (by omega)
    have cn2 : nI n ≤ nI k := nI_le hn (by omega)
    rcases fv with ⟨f1, f2, f3, f4, D, ok, c1, c2, c3, c4, c5, c6, c7, c8, c9⟩ | ⟨f, p, f1, f2, f3, f4, f5, f6, f7, f8, f9, f10⟩
    · obtain ⟨g, eg, gv⟩ := c_copyFrom (v := z.1.2.2.2.1.2.2 0) c1 (WFV_fin ok.1).1
      obtain ⟨f7, e7, v7⟩ := c_fcopy (o := z.1.1 7) c2 ok.2.1
      obtain ⟨g10, e10, v10⟩ := c_rcopy (o := z.1.1 10) c3 ok.2.2.1
      obtain ⟨g11, e11, v11⟩ := c_rcopy (o := z.1.1 11) c4 ok.2.2.2
      have ea : f_X11_village (z.1.1 0) z.1.2.1 (z.1.1 2) (z.1.1 3) (z.1.1 4) (z.1.1 5) (z.1.1 6) (z.1.1 7) z.1.2.2.1 (z.1.1 9) (z.1.1 10) (z.1.1 11) (z.1.1 12) z.1.2.2.2.1 (z.1.1 14) z.1.2.2.2.2.1 (z.1.1 16) (nI n) = some (0, ((upd (upd (upd (z.1.1 0).1 1 (nI 0)) 2 mO) 13 (nI 0), (z.1.1 0).2) : Ob), r.2.1, r.2.2.1, r.2.2.2.1, r.2.2.2.2.1, r.2.2.2.2.2, f7, ((upd z.1.2.2.1.1 6 (nI 0), z.1.2.2.1.2) : CS), g10, g11, ((z.1.2.2.2.1.1, z.1.2.2.2.1.2.1, sV z.1.2.2.2.1.2.2 0 g) : FS), ((upd (z.1.1 14).1 0 (nI 0), (z.1.1 14).2) : Ob), ((upd (z.1.1 16).1 0 (nI 0), (z.1.1 16).2) : Ob)) := by
        unfold f_X11_village
        rw [if_neg cn, k1, if_pos cn2, er, ob_some, bnd_nr, f1, if_pos rfl, bnd_nr, grd_d f0, eg, ob_some, bnd_nr, e7, ob_some, e10, ob_some, e11, ob_some, c_chg, ob_some, bnd_nr, bnd_nr, bnd_nr]
        rfl
      refine ⟨((((sV (sV (sV (sV (sV (sV (sV (sV (sV (sV (sV z.1.1 0 ((upd (upd (upd (z.1.1 0).1 1 (nI 0)) 2 mO) 13 (nI 0), (z.1.1 0).2) : Ob)) 2 r.2.1) 3 r.2.2.1) 4 r.2.2.2.1) 5 r.2.2.2.2.1) 6 r.2.2.2.2.2) 7 f7) 10 g10) 11 g11) 14 ((upd (z.1.1 14).1 0 (nI 0), (z.1.1 14).2) : Ob)) 16 ((upd (z.1.1 16).1 0 (nI 0), (z.1.1 16).2) : Ob), z.1.2.1, ((upd z.1.2.2.1.1 6 (nI 0), z.1.2.2.1.2) : CS), ((z.1.2.2.2.1.1, z.1.2.2.2.1.2.1, sV z.1.2.2.2.1.2.2 0 g) : FS), z.1.2.2.2.2.1, z.1.2.2.2.2.2) : XS), q.2, vp_updL z.2.2 (0 : Int32).toNatClampNeg (0 : Int32).toInt64) : LZ), nf1 z, nf2 z, nf3 z, Or.inr ⟨(0, ((upd (upd (upd (z.1.1 0).1 1 (nI 0)) 2 mO) 13 (nI 0), (z.1.1 0).2) : Ob), r.2.1, r.2.2.1, r.2.2.2.1, r.2.2.2.2.1, r.2.2.2.2.2, f7, ((upd z.1.2.2.1.1 6 (nI 0), z.1.2.2.1.2) : CS), g10, g11, ((z.1.2.2.2.1.1, z.1.2.2.2.1.2.1, sV z.1.2.2.2.1.2.2 0 g) : FS), ((upd (z.1.1 14).1 0 (nI 0), (z.1.1 14).2) : Ob), ((upd (z.1.1 16).1 0 (nI 0), (z.1.1 16).2) : Ob), vp_updL z.2.2 (0 : Int32).toNatClampNeg (0 : Int32).toInt64), q, ?_, ?_, th_0 v0, rfl, ?_, rfl⟩, ⟨dFin D.1, (ru D.2.2.1, ru D.2.2.2), D.2.1, (0, S.2), (0, A.2), false, I, T, 0, ?_, ⟨N, ?_⟩, ?_, ?_, ?_⟩, ⟨Nat.le_refl _, rfl⟩, ⟨Nat.le_refl _, rfl⟩, ⟨Nat.le_refl _, rfl⟩⟩
      · rw [en]
        unfold f_L_village
        rw [ea, ob_some, g01, bnd_nr]
      · rw [en]; exact eq
      · rw [f2]; exact uL0 (u := z.2.2) (x := (0 : Int32).toInt64)
      · exact ⟨⟨WFV_fin ok.1, Nat.zero_le _, ok.2.2.1.ru, ok.2.2.2.ru⟩, ok.2.1, ⟨Nat.zero_le _, fun k hk => absurd hk (Nat.not_lt_zero _)⟩, ⟨Nat.zero_le _, fun k hk => absurd hk (Nat.not_lt_zero _)⟩, fun e => by cases e⟩
      · show WC (ru D.2.2.1, ru D.2.2.2) (dFin D.1) N ((upd z.1.2.2.1.1 6 (nI 0), z.1.2.2.1.2) : CS) ((sV (sV (sV (sV (sV (sV (sV (sV (sV (sV (sV z.1.1 0 ((upd (upd (upd (z.1.1 0).1 1 (nI 0)) 2 mO) 13 (nI 0), (z.1.1 0).2) : Ob)) 2 r.2.1) 3 r.2.2.1) 4 r.2.2.2.1) 5 r.2.2.2.2.1) 6 r.2.2.2.2.2) 7 f7) 10 g10) 11 g11) 14 ((upd (z.1.1 14).1 0 (nI 0), (z.1.1 14).2) : Ob)) 16 ((upd (z.1.1 16).1 0 (nI 0), (z.1.1 16).2) : Ob)) 10) ((sV (sV (sV (sV (sV (sV (sV (sV (sV (sV (sV z.1.1 0 ((upd (upd (upd (z.1.1 0).1 1 (nI 0)) 2 mO) 13 (nI 0), (z.1.1 0).2) : Ob)) 2 r.2.1) 3 r.2.2.1) 4 r.2.2.2.1) 5 r.2.2.2.2.1) 6 r.2.2.2.2.2) 7 f7) 10 g10) 11 g11) 14 ((upd (z.1.1 14).1 0 (nI 0), (z.1.1 14).2) : Ob)) 16 ((upd (z.1.1 16).1 0 (nI 0), (z.1.1 16).2) : Ob)) 11) ((z.1.2.2.2.1.1, z.1.2.2.2.1.2.1, sV z.1.2.2.2.1.2.2 0 g) : FS)
        simp (disch := omega) only [sV_n, sV_s]
        exact WC_new wc gv v10 v11
      · show KX D.2.1 (0, S.2) (0, A.2) false I (sV (sV (sV (sV (sV (sV (sV (sV (sV (sV (sV z.1.1 0 ((upd (upd (upd (z.1.1 0).1 1 (nI 0)) 2 mO) 13 (nI 0), (z.1.1 0).2) : Ob)) 2 r.2.1) 3 r.2.2.1) 4 r.2.2.2.1) 5 r.2.2.2.2.1) 6 r.2.2.2.2.2) 7 f7) 10 g10) 11 g11) 14 ((upd (z.1.1 14).1 0 (nI 0), (z.1.1 14).2) : Ob)) 16 ((upd (z.1.1 16).1 0 (nI 0), (z.1.1 16).2) : Ob)) z.1.2.2.2.2.1 z.1.2.2.2.2.2
        unfold KX
        simp (disch := omega) only [sV_n, sV_s]
        obtain ⟨_, _, g9, hg9, _⟩ := kx.2.2.1
        exact ⟨v7, ⟨u8, fun k hk => absurd hk (Nat.not_lt_zero _)⟩, ⟨u8, Nat.zero_le _, g9, hg9, fun k hk => absurd hk (Nat.not_lt_zero _)⟩, kx.2.2.2.1, fun e => by cases e⟩
      · exact ⟨c5, ⟨c7, c8, (hz 39 (by omega)).trans mX.2.1.2.2.1, (hz 40 (by omega)).trans mX.2.1.2.2.2⟩, c6, ⟨c9.2.1, fun k hk => absurd hk (Nat.not_lt_zero _)⟩, ⟨c9.1, fun k hk => absurd hk (Nat.not_lt_zero _)⟩, fun e => by cases e⟩
      · show MI false T 0 ((sV (sV (sV (sV (sV (sV (sV (sV (sV (sV (sV z.1.1 0 ((upd (upd (upd (z.1.1 0).1 1 (nI 0)) 2 mO) 13 (nI 0), (z.1.1 0).2) : Ob)) 2 r.2.1) 3 r.2.2.1) 4 r.2.2.2.1) 5 r.2.2.2.2.1) 6 r.2.2.2.2.2) 7 f7) 10 g10) 11 g11) 14 ((upd (z.1.1 14).1 0 (nI 0), (z.1.1 14).2) : Ob)) 16 ((upd (z.1.1 16).1 0 (nI 0), (z.1.1 16).2) : Ob)) 0) z.1.2.1 q.2
        simp (disch := omega) only [sV_n, sV_s]
        refine ⟨⟨?_, v8, Nat.zero_le _⟩, fun i hi => absurd hi (Nat.not_lt_zero _), ?_, fun i hi => ?_, ?_, c9.2.2⟩
        · show upd (upd (upd (z.1.1 0).1 1 (nI 0)) 2 mO) 13 (nI 0) 1 = _
          rw [pk_un (by omega), pk_un (by omega), pk_us]
        · show upd (upd (upd (z.1.1 0).1 1 (nI 0)) 2 mO) 13 (nI 0) 2 = _
          rw [pk_un (by omega), pk_us, f3]
        · show (z.1.1 0).2 1 i = _
          rw [f4]; exact mi.2.2.2.1 i hi
        · show upd (upd (upd (z.1.1 0).1 1 (nI 0)) 2 mO) 13 (nI 0) 13 = _
          rw [pk_us]; rfl
    · have ff : ¬ r.1 = 0 := by
        rw [f3]
        exact fun e => f1 ((nI_eq (b := 0) (by omega) (by omega)).mp e)
      have ea : f_X11_village (z.1.1 0) z.1.2.1 (z.1.1 2) (z.1.1 3) (z.1.1 4) (z.1.1 5) (z.1.1 6) (z.1.1 7) z.1.2.2.1 (z.1.1 9) (z.1.1 10) (z.1.1 11) (z.1.1 12) z.1.2.2.2.1 (z.1.1 14) z.1.2.2.2.2.1 (z.1.1 16) (nI n) = some (nI f, ((upd (upd (z.1.1 0).1 1 (nI 0)) 2 (nI p), uA (z.1.1 0).2 1 0 ((z.1.1 0).2 1 0 + nI 1)) : Ob), r.2.1, r.2.2.1, r.2.2.2.1, r.2.2.2.2.1, r.2.2.2.2.2, z.1.1 7, z.1.2.2.1, z.1.1 10, z.1.1 11, z.1.2.2.2.1, z.1.1 14, z.1.1 16) := by
        unfold f_X11_village f_X6_place
        rw [if_neg cn, k1, if_pos cn2, er, ob_some, bnd_nr, if_neg ff, ob_some, bnd_nr, f4, show vi (0 : Int32) 3 = true from by decide, f3]
        rfl
      obtain ⟨ec9, fm9⟩ := EFm (r := q.2) mX (fun k hk => by
        rcases hk with e | e | e | e | e
        · exact f9 k (by omega)
        · exact f9 k (by omega)
        · exact f9 k (by omega)
        · exact hz k (by omega)
        · exact hz k (by omega)) (fun j hj => f10 j (by omega))
      refine ⟨((((sV (sV (sV (sV (sV (sV (sV (sV (sV (sV (sV z.1.1 0 ((upd (upd (z.1.1 0).1 1 (nI 0)) 2 (nI p), uA (z.1.1 0).2 1 0 ((z.1.1 0).2 1 0 + nI 1)) : Ob)) 2 r.2.1) 3 r.2.2.1) 4 r.2.2.2.1) 5 r.2.2.2.2.1) 6 r.2.2.2.2.2) 7 (z.1.1 7)) 10 (z.1.1 10)) 11 (z.1.1 11)) 14 (z.1.1 14)) 16 (z.1.1 16), z.1.2.1, z.1.2.2.1, z.1.2.2.2.1, z.1.2.2.2.2.1, z.1.2.2.2.2.2) : XS), q.2, vp_updL z.2.2 (0 : Int32).toNatClampNeg (nI f).toInt64) : LZ), nf1 z, nf2 z, nf3 z, Or.inr ⟨(0, ((upd (upd (z.1.1 0).1 1 (nI 0)) 2 (nI p), uA (z.1.1 0).2 1 0 ((z.1.1 0).2 1 0 + nI 1)) : Ob), r.2.1, r.2.2.1, r.2.2.2.1, r.2.2.2.2.1, r.2.2.2.2.2, z.1.1 7, z.1.2.2.1, z.1.1 10, z.1.1 11, z.1.2.2.2.1, z.1.1 14, z.1.1 16, vp_updL z.2.2 (0 : Int32).toNatClampNeg (nI f).toInt64), q, ?_, ?_, th_0 v0, rfl, ?_, rfl⟩, ⟨V, E, F, S, A, IB, I, T, 0, pu, ⟨N, ?_⟩, ?_, ?_, ?_⟩, ⟨Nat.le_refl _, rfl⟩, ⟨Nat.le_refl _, rfl⟩, ⟨Nat.le_refl _, rfl⟩⟩
      · rw [en]
        unfold f_L_village
        rw [ea, ob_some, g01, bnd_nr]
      · rw [en]; exact eq
      · rw [f6]; exact uL0 (u := z.2.2) (x := (nI f).toInt64)
      · show WC E V N z.1.2.2.1 ((sV (sV (sV (sV (sV (sV (sV (sV (sV (sV (sV z.1.1 0 ((upd (upd (z.1.1 0).1 1 (nI 0)) 2 (nI p), uA (z.1.1 0).2 1 0 ((z.1.1 0).2 1 0 + nI 1)) : Ob)) 2 r.2.1) 3 r.2.2.1) 4 r.2.2.2.1) 5 r.2.2.2.2.1) 6 r.2.2.2.2.2) 7 (z.1.1 7)) 10 (z.1.1 10)) 11 (z.1.1 11)) 14 (z.1.1 14)) 16 (z.1.1 16)) 10) ((sV (sV (sV (sV (sV (sV (sV (sV (sV (sV (sV z.1.1 0 ((upd (upd (z.1.1 0).1 1 (nI 0)) 2 (nI p), uA (z.1.1 0).2 1 0 ((z.1.1 0).2 1 0 + nI 1)) : Ob)) 2 r.2.1) 3 r.2.2.1) 4 r.2.2.2.1) 5 r.2.2.2.2.1) 6 r.2.2.2.2.2) 7 (z.1.1 7)) 10 (z.1.1 10)) 11 (z.1.1 11)) 14 (z.1.1 14)) 16 (z.1.1 16)) 11) z.1.2.2.2.1
        simp (disch := omega) only [sV_n, sV_s]
        exact wc
      · show KX F S A IB I (sV (sV (sV (sV (sV (sV (sV (sV (sV (sV (sV z.1.1 0 ((upd (upd (z.1.1 0).1 1 (nI 0)) 2 (nI p), uA (z.1.1 0).2 1 0 ((z.1.1 0).2 1 0 + nI 1)) : Ob)) 2 r.2.1) 3 r.2.2.1) 4 r.2.2.2.1) 5 r.2.2.2.2.1) 6 r.2.2.2.2.2) 7 (z.1.1 7)) 10 (z.1.1 10)) 11 (z.1.1 11)) 14 (z.1.1 14)) 16 (z.1.1 16)) z.1.2.2.2.2.1 z.1.2.2.2.2.2
        unfold KX
        simp (disch := omega) only [sV_n, sV_s]
        exact kx
      · exact ⟨VMm mX (f9 1 (by omega)) (f10 10 (by omega)), ec9, fm9, SMm mX (f9 48 (by omega)) (va9 20 (by omega)), AMm mX (f9 36 (by omega)) (va9 11 (by omega)), IMm mX (fun k hk => hz k (by omega)) (fun j hj => va9 j (by omega))⟩
      · show MI IB T 0 ((sV (sV (sV (sV (sV (sV (sV (sV (sV (sV (sV z.1.1 0 ((upd (upd (z.1.1 0).1 1 (nI 0)) 2 (nI p), uA (z.1.1 0).2 1 0 ((z.1.1 0).2 1 0 + nI 1)) : Ob)) 2 r.2.1) 3 r.2.2.1) 4 r.2.2.2.1) 5 r.2.2.2.2.1) 6 r.2.2.2.2.2) 7 (z.1.1 7)) 10 (z.1.1 10)) 11 (z.1.1 11)) 14 (z.1.1 14)) 16 (z.1.1 16)) 0) z.1.2.1 q.2
        simp (disch := omega) only [sV_n, sV_s]
        refine ⟨⟨?_, v8, Nat.zero_le _⟩, fun i hi => absurd hi (Nat.not_lt_zero _), ?_, fun i hi => ?_, ?_, ?_⟩
        · show upd (upd (z.1.1 0).1 1 (nI 0)) 2 (nI p) 1 = _
          rw [pk_un (by omega), pk_us]
        · show upd (upd (z.1.1 0).1 1 (nI 0)) 2 (nI p) 2 = _
          rw [pk_us, f7]
        · show uA (z.1.1 0).2 1 0 ((z.1.1 0).2 1 0 + nI 1) 1 i = _
          rw [f8]
          by_cases c : i = 0
          · rw [c, uA_ss, pk_us]
            exact congrArg (· + nI 1) (mi.2.2.2.1 0 (by omega))
          · rw [uA_sn c, pk_un c]; exact mi.2.2.2.1 i hi
        · show upd (upd (z.1.1 0).1 1 (nI 0)) 2 (nI p) 13 = _
          rw [pk_un (by omega), pk_un (by omega)]; exact mi.2.2.2.2.1
        · rw [f9 53 (by omega)]; exact mi.2.2.2.2.2
  · have cn : ar 1 < nI 0 ∨ (¬ ar 1 < nI 0 ∧ nI k < ar 1) := by
      rcases i_cs (ar 1) with q | ⟨j, hj, ej⟩
      · exact Or.inl q
      · rcases Nat.lt_or_ge k j with q | q
        · exact Or.inr ⟨by rw [ej]; exact nneg hj, by rw [ej]; exact nI_lt q hj⟩
        · exact absurd ⟨j, Nat.zero_le _, q, ej⟩ b1
    refine GD_t h (M' := ((upd (upd z.2.1.1 0 (nI 0)) 0 (nI 1), z.2.1.2) : MS)) (o' := z.2.2) QF_t (Or.inl ⟨(0, ((upd (upd z.2.1.1 0 (nI 0)) 0 (nI 1), z.2.1.2) : MS)), ?_, ?_, th_T, rfl⟩)
    · unfold t_X11_village
      rcases cn with q | ⟨q1, q2⟩
      · rw [if_pos (show ar 1 < 0 from q)]
      · rw [if_neg (show ¬ ar 1 < 0 from q1), k1, if_neg (fun e => Int32.not_lt.mpr e q2)]
    · have hr : f_X12_village_J23 (ar 1) 0 ((upd z.2.1.1 0 (0 : Int32), z.2.1.2) : MS) = some (0, ((upd (upd z.2.1.1 0 (nI 0)) 0 (nI 1), z.2.1.2) : MS)) := by
        have hr : f_X12_right ((upd z.2.1.1 0 (0 : Int32), z.2.1.2) : MS) 0 1 = some (0, ((upd (upd z.2.1.1 0 (nI 0)) 0 (nI 1), z.2.1.2) : MS)) := mr0
        unfold f_X12_village_J23
        rw [hr, ob_some]
        rfl
      unfold f_X12_village f_X12_village_J22
      rw [bnd_nr]
      rcases cn with q | ⟨q1, q2⟩
      · rw [if_pos (show ar 1 < 0 from q)]; exact hr
      · rw [if_neg (show ¬ ar 1 < 0 from q1), if_pos (show ((upd z.2.1.1 0 (0 : Int32), z.2.1.2) : MS).1 8 < ar 1 from by rw [show ((upd z.2.1.1 0 (0 : Int32), z.2.1.2) : MS).1 8 = nI k from (mi.u0 (x := nI 0)).1.2.1]; exact q2)]; exact hr
end SKS
