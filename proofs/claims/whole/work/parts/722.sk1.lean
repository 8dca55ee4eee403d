/-! calls, one by one -/
section SK1
variable {V : VT} {E : RE} {F : FD} {S : SN} {A : AC} {IB : Bool} {I : IG} {T : Nat → Nat} {k : Nat} {z : LZ} {ar : Nat → Int32}
theorem IV.thr (h : IV V E F S A IB I T k z) {M' : MS} {o' : Nat → Int64} {x : Int32} (hq : QF ((upd z.2.1.1 0 x, z.2.1.2) : MS) M') : Inv ((((z.1.1, z.1.2.1, z.1.2.2.1, z.1.2.2.2.1, z.1.2.2.2.2.1, z.1.2.2.2.2.2) : XS), M', o') : LZ) := by
  obtain ⟨N, wc⟩ := h.2.1
  exact ⟨V, E, F, S, A, IB, I, T, k, h.q (x' := z.1.1) (fun _ _ => rfl) wc hq⟩
theorem GD_t {K : LZ → LZ → Nat → Nat → Nat → (Nat → Int32) → Prop} (h : IV V E F S A IB I T k z) {M' : MS} {o' : Nat → Int64} {x : Int32} (hq : QF ((upd z.2.1.1 0 x, z.2.1.2) : MS) M') (hk : K z ((((z.1.1, z.1.2.1, z.1.2.2.1, z.1.2.2.2.1, z.1.2.2.2.2.1, z.1.2.2.2.2.2) : XS), M', o') : LZ) (nf1 z) (nf2 z) (nf3 z) ar) : GD K z ar := ⟨_, nf1 z, nf2 z, nf3 z, hk, h.thr hq, ⟨Nat.le_refl _, rfl⟩, ⟨Nat.le_refl _, rfl⟩, ⟨Nat.le_refl _, rfl⟩⟩
theorem GD_q {K : LZ → LZ → Nat → Nat → Nat → (Nat → Int32) → Prop} (h : IV V E F S A IB I T k z) {x' : Nat → Ob} {cs' : CS} {f1' : FS} {M' : MS} {o' : Nat → Int64} {N : Nat} (hx : ∀ j, j = 0 ∨ j = 7 ∨ j = 14 ∨ j = 16 ∨ j = 21 ∨ j = 22 ∨ j = 24 → x' j = z.1.1 j) (hw : WC E V N cs' (x' 10) (x' 11) f1') {x : Int32} (hq : QF ((upd z.2.1.1 0 x, z.2.1.2) : MS) M') (hN : nf1 z ≤ N) (hk : K z ((((x', z.1.2.1, cs', f1', z.1.2.2.2.2.1, z.1.2.2.2.2.2) : XS), M', o') : LZ) N (nf2 z) (nf3 z) ar) : GD K z ar := ⟨_, N, nf2 z, nf3 z, hk, ⟨V, E, F, S, A, IB, I, T, k, h.q hx hw hq⟩, ⟨hN, hw.n.1⟩, ⟨Nat.le_refl _, rfl⟩, ⟨Nat.le_refl _, rfl⟩⟩
theorem g01 {α : Type} {o : Option α} : grd (vi (0 : Int32) 1) o = o := rfl
theorem u00 {M : MS} {x : Int32} : ((upd M.1 0 x, M.2) : MS).1 0 = x := by
  show upd M.1 0 x 0 = x
  exact pk_us
theorem uu0 {f : Nat → Int32} {x y : Int32} : upd (upd f 0 x) 0 y = upd f 0 y := by
  funext j
  by_cases e : j = 0
  · rw [e, pk_us, pk_us]
  · rw [pk_un e, pk_un e, pk_un e]
theorem sV_x3 {x : Nat → Ob} {a b c : Ob} (j : Nat) (h : j ≠ 9 ∧ j ≠ 10 ∧ j ≠ 11) : sV (sV (sV x 9 a) 10 b) 11 c j = x j := by rw [sV_n h.2.2, sV_n h.2.1, sV_n h.1]
theorem sV_10 {x : Nat → Ob} {a b c : Ob} : sV (sV (sV x 9 a) 10 b) 11 c 10 = b := by rw [sV_n (by omega), sV_s]
theorem sV_11 {x : Nat → Ob} {a b c : Ob} : sV (sV (sV x 9 a) 10 b) 11 c 11 = c := sV_s
theorem QF_t {M : MS} {x : Int32} : QF ((upd M.1 0 x, M.2) : MS) ((upd (upd M.1 0 0) 0 x, M.2) : MS) := by rw [uu0]; exact QF.refl _
theorem c_beh {E : RE} {U : VT} {cs : CS} {D Rp Rk K : Ob} {fs : FS} {N e : Nat} (c : WC E U N cs Rp Rk fs) (cw : CW E U) (he : e ≤ 200) : RT (f_X1_behind cs D Rp Rk K fs (max N (e + 1)) (nI e)) (fun q => q.1 = e ∧ WC E U (max N (e + 1)) q.2.1 q.2.2.2.1 q.2.2.2.2.1 q.2.2.2.2.2 ∧ VC (q.2.2.2.2.2.2.2 e) (It E U e)) := by
  obtain ⟨⟨rd, c1⟩, c2, c3⟩ := c
  exact RT.weak (c_behind c1 cw.1 cw.2.1 cw.2.2 c2 c3 he rfl) (fun q ⟨q1, q2, q3, q4, _, q6⟩ => ⟨q1, ⟨⟨_, q2⟩, q3, q4⟩, q6⟩)
theorem CW.id {E : RE} {V : VT} (cw : CW E V) : CW E (idV V nI) := ⟨cw.1.idv nI, cw.2.1, cw.2.2⟩
theorem g_fault (h : IV V E F S A IB I T k z) : GD SK_fault z ar := by
  refine GD_t h (M' := ((upd z.2.1.1 0 0, z.2.1.2) : MS)) (o' := z.2.2) (QF.refl _) ?_
  unfold SK_fault
  refine ⟨(z.1.1 0).1 2, (z.2.1.1 10, ((upd z.2.1.1 0 0, z.2.1.2) : MS)), rfl, ?_, h.2.2.2.2.2.2.1, rfl⟩
  unfold f_X12_fault
  rw [bnd_nr]
  dsimp only
  rw [pk_un (by omega)]
theorem g_then (h : IV V E F S A IB I T k z) : GD SK_then z ar := by
  have h9 := h
  obtain ⟨pu, ⟨N, wc⟩, kx, mx, mi⟩ := h9
  have cw := pu.1
  have n12 := cw.1.1.1.1
  have e9 := cw.2.1
  obtain ⟨n1, n2, n3⟩ := wc.n
  have c0 := wc.c0
  have f0 : 0 < z.1.2.2.2.1.1 := by omega
  have m1 := mx.u0 (x := 0)
  rcases On.cs (vn V) (by omega) (ar 1) with ⟨i, hi, ei⟩ | b1
  · have np := np_ok (v := z.1.1 0) (fs := z.1.2.2.2.1) f0 c0.1.1 hi n12
    have mp := mp_ok (M := ((upd z.2.1.1 0 0, z.2.1.2) : MS)) u00 m1.1.1 hi n12
    rcases On.cs (3 + 1) (by omega) (ar 3) with ⟨w, hw, ew⟩ | b3
    · have nw := nw_ok (i := w) (n := 3) (by omega) (by omega)
      have mt := mt_ok (M := ((upd z.2.1.1 0 0, z.2.1.2) : MS)) (i := w) (n := 3) u00 (by omega) (by omega)
      by_cases b2 : ∃ e, 0 ≤ e ∧ e ≤ 100 ∧ ar 2 = nI e
      · obtain ⟨e, _, he, ee⟩ := b2
        have ni := ni_ok (i := e) (a := 0) (n := 100) (by omega) he (by omega)
        have ms := ms_ok (M := ((upd z.2.1.1 0 0, z.2.1.2) : MS)) (i := e) (a := 0) (x := 2) u00 (by omega) he
        obtain ⟨q, eq, q1, q2, q3⟩ := c_beh (D := z.1.1 9) (K := z.1.1 12) (wc.id (f := nI)) cw.id (e := e) (by omega)
        obtain ⟨r, er, r1, r2⟩ := m_goesTo (n := e) m1.1 cw.1 m1.2.1 cw.2.2 (by omega) (by omega)
        obtain ⟨wt, et, nt⟩ := It_wf (E := E) (V := idV V nI) (cw.1.idv nI) e (by show ve V + e ≤ 20000; omega)
        have nt : vn (It E (idV V nI) e) = vn V := nt
        have qn := q2.n.1
        generalize It E (idV V nI) e = W at *
        have hW : i < vn W := by omega
        obtain ⟨d1, d2, d3, d4, d5⟩ := q3.2.1 i hW
        obtain ⟨b1, b2, b3, b4, b5⟩ := r2.2.2.1 i hW
        have hh9 := (wt.1.2.1 i hW).1
        have wh := wt.1.1.2.1
        have key : ∃ a, f_X11_then (z.1.1 0) z.1.2.2.1 (z.1.1 9) (z.1.1 10) (z.1.1 11) (z.1.1 12) z.1.2.2.2.1 (max N (e + 1)) (nI i) (nI e) (nI w) = some (a, q.2) ∧ f_X12_then z.2.1 (nI i) (nI e) (nI w) = some (a, r) := by
          unfold f_X11_then f_X12_then
          rw [np.1, ob_some, show (3 : Int32) = nI 3 from rfl, nw.1, ob_some, show (0 : Int32) = nI 0 from rfl, show (100 : Int32) = nI 100 from rfl, ni.1, ob_some, sx_clamp (by omega), n1, eq, ob_some, q1, qn, grd_d (by omega), grd_d (by omega), grd_d (by omega), sx_grd (by omega) (by omega), sx_clamp (by omega), bnd_nr, d2]
          rw [bnd_nr, show nI 0 = (0 : Int32) from rfl, mp, ob_some, if_neg (by decide), mt, ob_some, if_neg (by decide), show (0 : Int32) = nI 0 from rfl, ms, ob_some, if_neg (by decide), er, ob_some]
          sorry
        obtain ⟨a, ea, em⟩ := key
        refine GD_q h (x' := sV (sV (sV z.1.1 9 q.2.2.1) 10 q.2.2.2.1) 11 q.2.2.2.2.1) (cs' := q.2.1) (f1' := q.2.2.2.2.2) (M' := r) (o' := vp_updL z.2.2 (0 : Int32).toNatClampNeg a.toInt64) (N := max N (e + 1)) (fun j hj => sV_x3 j (by omega)) (by rw [sV_10, sV_11]; exact q2.di) r1.qf (by show z.1.2.2.2.1.1 ≤ _; omega) (Or.inr (Or.inr ⟨(0, q.2.1, q.2.2.1, q.2.2.2.1, q.2.2.2.2.1, q.2.2.2.2.2, vp_updL z.2.2 (0 : Int32).toNatClampNeg a.toInt64), (a, r), ?_, ?_, th_0 ((r1.qf.1 0 (by decide)).trans u00), rfl, uL0, rfl⟩))
        · rw [ei, ee, ew]
          unfold f_L_then
          rw [ea, ob_some, grd_d (by dsimp only; omega), g01, bnd_nr]
        · rw [ei, ee, ew]; exact em
      · refine GD_t h (M' := ((upd (upd z.2.1.1 0 0) 0 2, z.2.1.2) : MS)) (o' := z.2.2) QF_t (Or.inr (Or.inl ⟨(0, ((upd (upd z.2.1.1 0 0) 0 2, z.2.1.2) : MS)), ?_, ?_, th_0 u00, rfl⟩))
        · simp only [t_X11_then, ei, ew, np.1, np.2, nw.1, nw.2, show (3 : Int32) = nI 3 from rfl, ob_some, show (0 : Int32) = nI 0 from rfl, show (100 : Int32) = nI 100 from rfl, ni_no (a := 0) (n := 100) (by omega) (by omega) b2]
        · unfold f_X12_then
          rw [bnd_nr, ei, mp, ob_some, if_neg (by decide), ew, show (3 : Int32) = nI 3 from rfl, mt, ob_some, if_neg (by decide), show (0 : Int32) = nI 0 from rfl, ms_no (a := 0) (x := 2) u00 (by decide) (by omega) b2, ob_some, if_pos rfl]
    · refine GD_t h (M' := ((upd (upd z.2.1.1 0 0) 0 1, z.2.1.2) : MS)) (o' := z.2.2) QF_t (Or.inl ⟨(0, ((upd (upd z.2.1.1 0 0) 0 1, z.2.1.2) : MS)), ?_, ?_, th_0 u00, rfl⟩)
      · simp only [t_X11_then, ei, np.1, np.2, show (3 : Int32) = nI 3 from rfl, ob_some, nw_no (n := 3) (by omega) b3]
      · unfold f_X12_then
        rw [bnd_nr, ei, mp, ob_some, if_neg (by decide), show (3 : Int32) = nI 3 from rfl, mt_no (n := 3) u00 (by omega) b3, ob_some, if_pos rfl]
  · refine GD_t h (M' := ((upd (upd z.2.1.1 0 0) 0 1, z.2.1.2) : MS)) (o' := z.2.2) QF_t (Or.inl ⟨(0, ((upd (upd z.2.1.1 0 0) 0 1, z.2.1.2) : MS)), ?_, ?_, th_0 u00, rfl⟩)
    · simp only [t_X11_then, np_no f0 c0.1.1 n12 b1]
    · unfold f_X12_then
      rw [bnd_nr, mp_no u00 m1.1.1 b1, ob_some, if_pos rfl]
end SK1
