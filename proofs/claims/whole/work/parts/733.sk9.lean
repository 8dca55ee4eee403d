section MXS
variable {V : VT} {E : RE} {F : FD} {S : SN} {A : AC} {IB : Bool} {I : IG} {M r : MS}
theorem EFm (h : MX V E F S A IB I M) (i : ∀ k, k = 2 ∨ k = 3 ∨ k = 4 ∨ k = 39 ∨ k = 40 → r.1 k = M.1 k) (a : ∀ j, j = 1 ∨ j = 2 → r.2.2 j = M.2.2 j) : EC E r ∧ FM r F := by
  obtain ⟨h1, h2, h3, h4, h5, h6⟩ := h
  constructor
  · unfold EC at h2 ⊢
    rw [i 3 (by omega), i 4 (by omega), i 39 (by omega), i 40 (by omega)]
    exact ⟨RMo_of (a 2 (by omega)) h2.1, RMo_of (a 2 (by omega)) h2.2.1, h2.2.2⟩
  · unfold FM at h3 ⊢
    rw [i 2 (by omega), a 1 (by omega)]; exact h3
theorem IMm (h : MX V E F S A IB I M) (i : ∀ k, k = 54 ∨ k = 55 → r.1 k = M.1 k) (a : ∀ j, j = 23 ∨ j = 24 ∨ j = 25 → r.2.2 j = M.2.2 j) : IB = true → RW (r.2.2 23) 0 I.1 ∧ AMr (r.1 54) (r.2.2 24) I.2.1 ∧ SMa (r.1 55) (r.2.2 25) I.2.2 := fun y => by
  rw [i 54 (by omega), i 55 (by omega), a 23 (by omega), a 24 (by omega), a 25 (by omega)]; exact h.2.2.2.2.2 y
theorem VMm (h : MX V E F S A IB I M) (i : r.1 1 = M.1 1) (a : r.2.2 10 = M.2.2 10) : VM r 0 V := ⟨i.trans h.1.1, RW_of a.symm h.1.2⟩
theorem AMm (h : MX V E F S A IB I M) (i : r.1 36 = M.1 36) (a : r.2.2 11 = M.2.2 11) : AMr (r.1 36) (r.2.2 11) A := by
  rw [i, a]; exact h.2.2.2.2.1
theorem SMm (h : MX V E F S A IB I M) (i : r.1 48 = M.1 48) (a : r.2.2 20 = M.2.2 20) : SMo r S := by
  have h4 := h.2.2.2.1
  unfold SMo at h4 ⊢
  rw [i, a]; exact h4
end MXS
def sN1 (S : SN) (i e w : Nat) : SN := (S.1 + 1, (fun k => if k = S.1 then i else S.2.1 k), (fun k => if k = S.1 then e else S.2.2.1 k), fun k => if k = S.1 then w else S.2.2.2 k)
theorem c_sadd {o : Ob} {S : SN} {i e w : Nat} (h : SCo o S) (h8 : S.1 < 8) : RT (f_X8_add o (nI i) (nI e) (nI w)) (fun r => SCo r (sN1 S i e w)) := by
  have h0 := h.1
  refine ⟨((upd o.1 0 (nI (S.1 + 1)), uA (uA (uA o.2 1 S.1 (nI i)) 2 S.1 (nI e)) 3 S.1 (nI w)) : Ob), ?_, ?_, fun k hk => ?_⟩
  · simp (disch := omega) only [f_X8_add, bnd_nr, li_0, li_1, li_2, li_3, li_4, li_5, li_6, li_7, li_8, li_9, li_10, li_11, li_12, li_13, li_14, li_15, li_16, li_17, li_18, li_19, li_20, li_21, li_22, li_23, li_24, li_25, li_26, li_27, li_28, li_29, li_30, li_31, li_32, li_33, li_34, li_35, li_36, li_37, li_38, li_39, li_40, li_41, li_42, li_43, li_44, li_45, li_46, li_47, li_48, li_49, li_50, li_51, li_52, li_53, li_54, li_55, li_56, li_57, li_58, li_59, li_60, li_61, li_62, li_63, li_64, li_74, li_86, li_87, li_88, li_96, li_97, li_98, li_99, li_100, li_101, li_102, li_103, li_104, li_105, li_107, li_108, li_109, li_110, li_111, li_112, li_114, li_115, li_116, li_117, li_118, li_121, li_122, li_124, li_136, li_148, li_160, li_680, li_200, li_201, li_255, li_700, li_950, li_1000, li_1400, li_3440, li_4096, li_9999, li_10000, li_20000, li_20033, li_20038, li_20124, li_32767, li_65535, li_1103515245, li_12345, li_m, sx_grd, sx_clamp, nI_add, sx_sub, pk_mul, sx_le, sx_lt, sx_eq, sx_eqm, sx_meq, sx_lem, sx_mle, sx_ltm, sx_mlt, sx_addm, sx_shl, sx_bit1, sx_bit0, fa_or, uA_s, uA_n, sA_s, sA_n, sx_uA, sx_uAn, sx_sAs, pk_us, pk_un, if_true, if_false, if_pos, if_neg, ob_some, Nat.add_zero, Nat.add_sub_cancel, eq_self, ne_eq, not_true, not_false_iff, false_or, true_or, or_false, or_true, false_and, true_and, and_false, and_true, h0]
  · show upd o.1 0 (nI (S.1 + 1)) 0 = _
    exact pk_us
  · have hk : k < S.1 + 1 := hk
    show uA (uA (uA o.2 1 S.1 (nI i)) 2 S.1 (nI e)) 3 S.1 (nI w) 1 k = nI (if k = S.1 then i else S.2.1 k) ∧ uA (uA (uA o.2 1 S.1 (nI i)) 2 S.1 (nI e)) 3 S.1 (nI w) 2 k = nI (if k = S.1 then e else S.2.2.1 k) ∧ uA (uA (uA o.2 1 S.1 (nI i)) 2 S.1 (nI e)) 3 S.1 (nI w) 3 k = nI (if k = S.1 then w else S.2.2.2 k)
    by_cases c : k = S.1
    · rw [if_pos c, if_pos c, if_pos c, c]
      simp (disch := omega) only [uA_s, uA_n, sA_s, sA_n, pk_us, pk_un, and_self]
    · rw [if_neg c, if_neg c, if_neg c]
      simp (disch := omega) only [uA_s, uA_n, sA_s, sA_n, pk_us, pk_un]
      exact h.2 k (by omega)
theorem SOK_1 {S : SN} {n i e w : Nat} (h : SOK S n) (h8 : S.1 < 8) (hi : i < n) (he : e ≤ 20) (hw : w ≤ 12) : SOK (sN1 S i e w) n := by
  refine ⟨show S.1 + 1 ≤ 8 by omega, fun k hk => ?_⟩
  have hk : k < S.1 + 1 := hk
  show (if k = S.1 then i else S.2.1 k) < n ∧ (if k = S.1 then e else S.2.2.1 k) ≤ 20 ∧ (if k = S.1 then w else S.2.2.2 k) ≤ 12
  by_cases c : k = S.1
  · rw [if_pos c, if_pos c, if_pos c]; exact ⟨hi, he, hw⟩
  · rw [if_neg c, if_neg c, if_neg c]; exact h.2 k (by omega)
theorem sV_16 {x : Nat → Ob} {y : Ob} (j : Nat) (h : j ≠ 0) : sV (sV x 0 y) 16 (x 16) j = x j := by
  by_cases e : j = 16
  · rw [e, sV_s]
  · rw [sV_n e, sV_n h]
section SKS
variable {V : VT} {E : RE} {F : FD} {S : SN} {A : AC} {IB : Bool} {I : IG} {T : Nat → Nat} {k : Nat} {z : LZ} {ar : Nat → Int32}
theorem g_image (h : IV V E F S A IB I T k z) : GD SK_image z ar := by
  have h9 := h
  obtain ⟨pu, ⟨N, wc⟩, kx, mX, mi⟩ := h9
  have cw := pu.1
  have fok := pu.2.1
  have sok := pu.2.2.1
  have n12 := cw.1.1.1.1
  have h12 := Nat.le_trans cw.1.hn n12
  have e9 := cw.2.1
  obtain ⟨n1, n2, n3⟩ := wc.n
  have c0 := wc.c0
  have f0 : 0 < z.1.2.2.2.1.1 := by omega
  have m1 := mX.u0 (x := nI 0)
  have wi := wc.id (f := nI)
  have ci := cw.id
  have c0i := wi.c0
  have aok := pu.2.2.2.1
  have a36 : z.2.1.1 36 = nI A.1 := mX.2.2.2.2.1.1
  have s48 : z.2.1.1 48 = nI S.1 := mX.2.2.2.1.1
  have a40 := aok.1
  have s8 := sok.1
  obtain ⟨q, eq, qv⟩ := c_copyFrom (v := z.1.1 21) c0 cw.1.1
  obtain ⟨t, et, ta, tb, t1, t2⟩ := c_acopy (o := z.1.1 22) kx.2.2.2.1 kx.2.2.1 aok rfl
  obtain ⟨s, es, sv⟩ := c_scopy (o := z.1.1 24) kx.2.1 sok
  obtain ⟨y, hy⟩ : ∃ y : MS, y = ((upd (upd (upd (upd z.2.1.1 0 (nI 0)) 53 (nI 1)) 54 (nI A.1)) 55 (nI S.1), z.2.1.2) : MS) := ⟨_, rfl⟩
  have y1 : ∀ k, k ≠ 53 → k ≠ 54 → k ≠ 55 → y.1 k = (((upd z.2.1.1 0 (nI 0), z.2.1.2) : MS)).1 k := fun k a b c => by
    rw [hy]
    show upd (upd (upd (upd z.2.1.1 0 (nI 0)) 53 (nI 1)) 54 (nI A.1)) 55 (nI S.1) k = _
    rw [pk_un c, pk_un b, pk_un a]
  have y53 : y.1 53 = nI 1 := by
    rw [hy]
    show upd (upd (upd (upd z.2.1.1 0 (nI 0)) 53 (nI 1)) 54 (nI A.1)) 55 (nI S.1) 53 = _
    rw [pk_un (by omega), pk_un (by omega), pk_us]
  have y54 : y.1 54 = nI A.1 := by
    rw [hy]
    show upd (upd (upd (upd z.2.1.1 0 (nI 0)) 53 (nI 1)) 54 (nI A.1)) 55 (nI S.1) 54 = _
    rw [pk_un (by omega), pk_us]
  have y55 : y.1 55 = nI S.1 := by
    rw [hy]
    show upd (upd (upd (upd z.2.1.1 0 (nI 0)) 53 (nI 1)) 54 (nI A.1)) 55 (nI S.1) 55 = _
    rw [pk_us]
  have y2 : y.2.2 = z.2.1.2.2 := by rw [hy]
  obtain ⟨r, er, r1, r2, r3, r4, r5⟩ := m_imageL (y := y)
  have i9 : ∀ k, k ≠ 53 → k ≠ 54 → k ≠ 55 → r.1 k = (((upd z.2.1.1 0 (nI 0), z.2.1.2) : MS)).1 k := fun k a b c => by rw [r1]; exact y1 k a b c
  have j9 : ∀ j, j ≠ 23 → j ≠ 24 → j ≠ 25 → r.2.2 j = (((upd z.2.1.1 0 (nI 0), z.2.1.2) : MS)).2.2 j := fun j a b c => by rw [r2 j a b c, y2]
  have ea : f_X11_image (z.1.1 0) z.1.2.2.2.1 (z.1.1 14) z.1.2.2.2.2.1 (z.1.1 16) (z.1.1 21) (z.1.1 22) z.1.2.2.2.2.2 (z.1.1 24) (nf2 z) (max (nf3 z) A.1) = some (((upd (z.1.1 0).1 13 (nI 1), (z.1.1 0).2) : Ob), t.2.2, q, t.1, t.2.1, s) := by
    have et : f_X0_copyFrom (z.1.1 22) z.1.2.2.2.2.2 (z.1.1 14) z.1.2.2.2.2.1 (max (nf3 z) A.1) (nf2 z) = some t := et
    unfold f_X11_image
    rw [bnd_nr, grd_d f0, eq, ob_some, et, ob_some, grd_d (by rw [t1, t2]; exact ⟨Nat.le_max_left _ _, Nat.le_refl _, Nat.le_refl _, Nat.le_refl _⟩), es, ob_some]
    rfl
  have em : f_X12_image z.2.1 = some r := by
    rw [hy] at er
    simp (disch := omega) only [f_X12_image, bnd_nr, li_0, li_1, li_2, li_3, li_4, li_5, li_6, li_7, li_8, li_9, li_10, li_11, li_12, li_13, li_14, li_15, li_16, li_17, li_18, li_19, li_20, li_21, li_22, li_23, li_24, li_25, li_26, li_27, li_28, li_29, li_30, li_31, li_32, li_33, li_34, li_35, li_36, li_37, li_38, li_39, li_40, li_41, li_42, li_43, li_44, li_45, li_46, li_47, li_48, li_49, li_50, li_51, li_52, li_53, li_54, li_55, li_56, li_57, li_58, li_59, li_60, li_61, li_62, li_63, li_64, li_74, li_86, li_87, li_88, li_96, li_97, li_98, li_99, li_100, li_101, li_102, li_103, li_104, li_105, li_107, li_108, li_109, li_110, li_111, li_112, li_114, li_115, li_116, li_117, li_118, li_121, li_122, li_124, li_136, li_148, li_160, li_680, li_200, li_201, li_255, li_700, li_950, li_1000, li_1400, li_3440, li_4096, li_9999, li_10000, li_20000, li_20033, li_20038, li_20124, li_32767, li_65535, li_1103515245, li_12345, li_m, sx_grd, sx_clamp, nI_add, sx_sub, pk_mul, sx_le, sx_lt, sx_eq, sx_eqm, sx_meq, sx_lem, sx_mle, sx_ltm, sx_mlt, sx_addm, sx_shl, sx_bit1, sx_bit0, fa_or, uA_s, uA_n, sA_s, sA_n, sx_uA, sx_uAn, sx_sAs, pk_us, pk_un, if_true, if_false, if_pos, if_neg, ob_some, Nat.add_zero, Nat.add_sub_cancel, eq_self, ne_eq, not_true, not_false_iff, false_or, true_or, or_false, or_true, false_and, true_and, and_false, and_true, a36, s48, er]
  obtain ⟨ec9, fm9⟩ := EFm (r := r) m1 (fun k hk => i9 k (by omega) (by omega) (by omega)) (fun j hj => j9 j (by omega) (by omega) (by omega))
  refine ⟨((((sV (sV (sV (sV z.1.1 0 ((upd (z.1.1 0).1 13 (nI 1), (z.1.1 0).2) : Ob)) 21 q) 22 t.1) 24 s, z.1.2.1, z.1.2.2.1, z.1.2.2.2.1, t.2.2, t.2.1) : XS), r, z.2.2) : LZ), nf1 z, nf2 z, max (nf3 z) A.1, ⟨_, r, ea, em, rfl⟩, ⟨V, E, F, S, A, true, (V, A, S), T, k, ⟨pu.1, pu.2.1, pu.2.2.1, pu.2.2.2.1, fun _ => ⟨⟨cw.1, e9, rfl⟩, aok, sok⟩⟩, ⟨N, ?_⟩, ?_, ?_, ?_⟩, ⟨Nat.le_refl _, rfl⟩, ⟨Nat.le_refl _, t2⟩, ⟨Nat.le_max_left _ _, t1⟩⟩
  · show WC E V N z.1.2.2.1 ((sV (sV (sV (sV z.1.1 0 ((upd (z.1.1 0).1 13 (nI 1), (z.1.1 0).2) : Ob)) 21 q) 22 t.1) 24 s) 10) ((sV (sV (sV (sV z.1.1 0 ((upd (z.1.1 0).1 13 (nI 1), (z.1.1 0).2) : Ob)) 21 q) 22 t.1) 24 s) 11) z.1.2.2.2.1
    simp (disch := omega) only [sV_n]
    exact wc
  · show KX F S A true (V, A, S) (sV (sV (sV (sV z.1.1 0 ((upd (z.1.1 0).1 13 (nI 1), (z.1.1 0).2) : Ob)) 21 q) 22 t.1) 24 s) t.2.2 t.2.1
    unfold KX
    simp (disch := omega) only [sV_n, sV_s]
    obtain ⟨_, _, g, hg, _⟩ := ta
    exact ⟨kx.1, kx.2.1, tb, ⟨g, hg⟩, fun _ => ⟨qv, ⟨by assumption, by assumption, g, hg, by assumption⟩, sv⟩⟩
  · refine ⟨VMm m1 (i9 1 (by omega) (by omega) (by omega)) (j9 10 (by omega) (by omega) (by omega)), ec9, fm9, SMm m1 (i9 48 (by omega) (by omega) (by omega)) (j9 20 (by omega) (by omega) (by omega)), AMm m1 (i9 36 (by omega) (by omega) (by omega)) (j9 11 (by omega) (by omega) (by omega)), fun _ => ⟨?_, ⟨?_, fun i hi => ?_⟩, ⟨?_, fun j hj => ?_⟩⟩⟩
    · exact RW_cp cw.1 (fun j hj => by rw [Nat.zero_add, r3 j hj, y2]) m1.1.2
    · show r.1 54 = _
      rw [r1]; exact y54
    · have hi : i < A.1 := hi
      exact RW_cp (aok.2 i hi).1 (fun j hj => by rw [r4 _ (by omega), y2]) (m1.2.2.2.2.1.2 i hi)
    · show r.1 55 = _
      rw [r1]; exact y55
    · have hj : j < S.1 := hj
      show r.2.2 25 (3 * j) = _ ∧ r.2.2 25 (3 * j + 1) = _ ∧ r.2.2 25 (3 * j + 2) = _
      rw [r5 _ (by omega), r5 _ (by omega), r5 _ (by omega), y2]
      exact m1.2.2.2.1.2 j hj
  · show MI true T k ((sV (sV (sV (sV z.1.1 0 ((upd (z.1.1 0).1 13 (nI 1), (z.1.1 0).2) : Ob)) 21 q) 22 t.1) 24 s) 0) z.1.2.1 r
    simp (disch := omega) only [sV_n, sV_s]
    obtain ⟨g1, g2, g3, g4, g5, g6⟩ := mi.u0 (x := nI 0)
    refine ⟨⟨?_, (i9 8 (by omega) (by omega) (by omega)).trans g1.2.1, g1.2.2⟩, g2.of (j9 3 (by omega) (by omega) (by omega)), ?_, fun i hi => ?_, ?_, ?_⟩
    · show upd (z.1.1 0).1 13 (nI 1) 1 = _
      rw [pk_un (by omega)]; exact g1.1
    · show upd (z.1.1 0).1 13 (nI 1) 2 = _
      rw [pk_un (by omega), i9 10 (by omega) (by omega) (by omega)]; exact g3
    · show (z.1.1 0).2 1 i = _
      rw [j9 4 (by omega) (by omega) (by omega)]; exact g4 i hi
    · show upd (z.1.1 0).1 13 (nI 1) 13 = _
      rw [pk_us]; rfl
    · rw [r1, y53]; rfl
theorem g_restore (h : IV V E F S A IB I T k z) : GD SK_restore z ar := by
  have h9 := h
  obtain ⟨pu, ⟨N, wc⟩, kx, mX, mi⟩ := h9
  have cw := pu.1
  have fok := pu.2.1
  have sok := pu.2.2.1
  have n12 := cw.1.1.1.1
  have h12 := Nat.le_trans cw.1.hn n12
  have e9 := cw.2.1
  obtain ⟨n1, n2, n3⟩ := wc.n
  have c0 := wc.c0
  have f0 : 0 < z.1.2.2.2.1.1 := by omega
  have m1 := mX.u0 (x := nI 0)
  have wi := wc.id (f := nI)
  have ci := cw.id
  have c0i := wi.c0
  have b13 := mi.2.2.2.2.1
  have b53 := mi.2.2.2.2.2
  have aok := pu.2.2.2.1
  cases IB with
  | false =>
    have b13 : (z.1.1 0).1 13 = nI 0 := b13
    have b53 : z.2.1.1 53 = nI 0 := b53
    have ea : f_X11_restore (z.1.1 0) z.1.2.2.1 (z.1.1 9) (z.1.1 10) (z.1.1 11) (z.1.1 12) z.1.2.2.2.1 (z.1.1 14) z.1.2.2.2.2.1 (z.1.1 16) (z.1.1 21) (z.1.1 22) z.1.2.2.2.2.2 (z.1.1 24) (nf2 z) (nf3 z) = some (nI 0, z.1.2.2.1, z.1.2.2.2.1, z.1.1 14, z.1.2.2.2.2.1, z.1.1 16, z.1.2.2.2.2.2) := by
      simp (disch := omega) only [f_X11_restore, bnd_nr, li_0, li_1, li_2, li_3, li_4, li_5, li_6, li_7, li_8, li_9, li_10, li_11, li_12, li_13, li_14, li_15, li_16, li_17, li_18, li_19, li_20, li_21, li_22, li_23, li_24, li_25, li_26, li_27, li_28, li_29, li_30, li_31, li_32, li_33, li_34, li_35, li_36, li_37, li_38, li_39, li_40, li_41, li_42, li_43, li_44, li_45, li_46, li_47, li_48, li_49, li_50, li_51, li_52, li_53, li_54, li_55, li_56, li_57, li_58, li_59, li_60, li_61, li_62, li_63, li_64, li_74, li_86, li_87, li_88, li_96, li_97, li_98, li_99, li_100, li_101, li_102, li_103, li_104, li_105, li_107, li_108, li_109, li_110, li_111, li_112, li_114, li_115, li_116, li_117, li_118, li_121, li_122, li_124, li_136, li_148, li_160, li_680, li_200, li_201, li_255, li_700, li_950, li_1000, li_1400, li_3440, li_4096, li_9999, li_10000, li_20000, li_20033, li_20038, li_20124, li_32767, li_65535, li_1103515245, li_12345, li_m, sx_grd, sx_clamp, nI_add, sx_sub, pk_mul, sx_le, sx_lt, sx_eq, sx_eqm, sx_meq, sx_lem, sx_mle, sx_ltm, sx_mlt, sx_addm, sx_shl, sx_bit1, sx_bit0, fa_or, uA_s, uA_n, sA_s, sA_n, sx_uA, sx_uAn, sx_sAs, pk_us, pk_un, if_true, if_false, if_pos, if_neg, ob_some, Nat.add_zero, Nat.add_sub_cancel, eq_self, ne_eq, not_true, not_false_iff, false_or, true_or, or_false, or_true, false_and, true_and, and_false, and_true, b13]
    have em : f_X12_restore z.2.1 = some (nI 0, ((upd z.2.1.1 0 (nI 0), z.2.1.2) : MS)) := by
      simp (disch := omega) only [f_X12_restore, bnd_nr, li_0, li_1, li_2, li_3, li_4, li_5, li_6, li_7, li_8, li_9, li_10, li_11, li_12, li_13, li_14, li_15, li_16, li_17, li_18, li_19, li_20, li_21, li_22, li_23, li_24, li_25, li_26, li_27, li_28, li_29, li_30, li_31, li_32, li_33, li_34, li_35, li_36, li_37, li_38, li_39, li_40, li_41, li_42, li_43, li_44, li_45, li_46, li_47, li_48, li_49, li_50, li_51, li_52, li_53, li_54, li_55, li_56, li_57, li_58, li_59, li_60, li_61, li_62, li_63, li_64, li_74, li_86, li_87, li_88, li_96, li_97, li_98, li_99, li_100, li_101, li_102, li_103, li_104, li_105, li_107, li_108, li_109, li_110, li_111, li_112, li_114, li_115, li_116, li_117, li_118, li_121, li_122, li_124, li_136, li_148, li_160, li_680, li_200, li_201, li_255, li_700, li_950, li_1000, li_1400, li_3440, li_4096, li_9999, li_10000, li_20000, li_20033, li_20038, li_20124, li_32767, li_65535, li_1103515245, li_12345, li_m, sx_grd, sx_clamp, nI_add, sx_sub, pk_mul, sx_le, sx_lt, sx_eq, sx_eqm, sx_meq, sx_lem, sx_mle, sx_ltm, sx_mlt, sx_addm, sx_shl, sx_bit1, sx_bit0, fa_or, uA_s, uA_n, sA_s, sA_n, sx_uA, sx_uAn, sx_sAs, pk_us, pk_un, if_true, if_false, if_pos, if_neg, ob_some, Nat.add_zero, Nat.add_sub_cancel, eq_self, ne_eq, not_true, not_false_iff, false_or, true_or, or_false, or_true, false_and, true_and, and_false, and_true, b53]
    have sx : ∀ j, sV (sV z.1.1 14 (z.1.1 14)) 16 (z.1.1 16) j = z.1.1 j := fun j => by
      by_cases e : j = 16
      · rw [e, sV_s]
      · rw [sV_n e, sV_i]
    exact GD_q h (x' := sV (sV z.1.1 14 (z.1.1 14)) 16 (z.1.1 16)) (cs' := z.1.2.2.1) (f1' := z.1.2.2.2.1) (M' := ((upd z.2.1.1 0 (nI 0), z.2.1.2) : MS)) (o' := z.2.2) (N := N) (fun j _ => sx j) (by rw [sx, sx]; exact wc) (QF.refl _) (by show z.1.2.2.2.1.1 ≤ _; omega) ⟨(nI 0, z.1.2.2.1, z.1.2.2.2.1, z.1.1 14, z.1.2.2.2.2.1, z.1.1 16, z.1.2.2.2.2.2), (nI 0, ((upd z.2.1.1 0 (nI 0), z.2.1.2) : MS)), ea, em, rfl, rfl⟩
  | true =>
    have b13 : (z.1.1 0).1 13 = nI 1 := b13
    have b53 : z.2.1.1 53 = nI 1 := b53
    obtain ⟨⟨w9, e99, n9⟩, iok, isok⟩ := pu.2.2.2.2 rfl
    obtain ⟨k1, k2, k3⟩ := kx.2.2.2.2 rfl
    obtain ⟨x1, x2, x3⟩ := m1.2.2.2.2.2 rfl
    have a40 := iok.1
    have s8 := isok.1
    have x54 : z.2.1.1 54 = nI I.2.1.1 := (mX.2.2.2.2.2 rfl).2.1.1
    have x55 : z.2.1.1 55 = nI I.2.2.1 := (mX.2.2.2.2.2 rfl).2.2.1
    obtain ⟨q, eq, qv⟩ := c_copyFrom (v := z.1.2.2.2.1.2.2 0) k1 w9.1
    have dg : ∃ g, ACg z.1.2.2.2.2.1 g := by
      obtain ⟨_, _, g, hg, _⟩ := kx.2.2.1
      exact ⟨g, hg⟩
    obtain ⟨t, et, ta, tb, t1, t2⟩ := c_acopy (o := z.1.1 14) dg k2 iok rfl
    obtain ⟨s, es, sv⟩ := c_scopy (o := z.1.1 16) k3 isok
    obtain ⟨y, hy⟩ : ∃ y : MS, y = ((upd (upd (upd z.2.1.1 0 (nI 0)) 36 (nI I.2.1.1)) 48 (nI I.2.2.1), z.2.1.2) : MS) := ⟨_, rfl⟩
    have y1 : ∀ k, k ≠ 36 → k ≠ 48 → y.1 k = (((upd z.2.1.1 0 (nI 0), z.2.1.2) : MS)).1 k := fun k a b => by
      rw [hy]
      show upd (upd (upd z.2.1.1 0 (nI 0)) 36 (nI I.2.1.1)) 48 (nI I.2.2.1) k = _
      rw [pk_un b, pk_un a]
    have y36 : y.1 36 = nI I.2.1.1 := by
      rw [hy]
      show upd (upd (upd z.2.1.1 0 (nI 0)) 36 (nI I.2.1.1)) 48 (nI I.2.2.1) 36 = _
      rw [pk_un (by omega), pk_us]
    have y48 : y.1 48 = nI I.2.2.1 := by
      rw [hy]
      show upd (upd (upd z.2.1.1 0 (nI 0)) 36 (nI I.2.1.1)) 48 (nI I.2.2.1) 48 = _
      rw [pk_us]
    have y2 : y.2.2 = z.2.1.2.2 := by rw [hy]
    obtain ⟨r, er, r0, r1, r2, r3, r4, r5⟩ := m_restL (y := y)
    have i9 : ∀ k, k ≠ 36 → k ≠ 48 → r.2.1 k = (((upd z.2.1.1 0 (nI 0), z.2.1.2) : MS)).1 k := fun k a b => by rw [r1]; exact y1 k a b
    have j9 : ∀ j, j ≠ 10 → j ≠ 11 → j ≠ 20 → r.2.2.2 j = (((upd z.2.1.1 0 (nI 0), z.2.1.2) : MS)).2.2 j := fun j a b c => by rw [r2 j a b c, y2]
    have ea : f_X11_restore (z.1.1 0) z.1.2.2.1 (z.1.1 9) (z.1.1 10) (z.1.1 11) (z.1.1 12) z.1.2.2.2.1 (z.1.1 14) z.1.2.2.2.2.1 (z.1.1 16) (z.1.1 21) (z.1.1 22) z.1.2.2.2.2.2 (z.1.1 24) (max (nf2 z) I.2.1.1) (nf3 z) = some (1, ((upd z.1.2.2.1.1 6 (nI 0), z.1.2.2.1.2) : CS), ((z.1.2.2.2.1.1, z.1.2.2.2.1.2.1, sV z.1.2.2.2.1.2.2 0 q) : FS), t.1, t.2.1, s, t.2.2) := by
      have et : f_X0_copyFrom (z.1.1 14) z.1.2.2.2.2.1 (z.1.1 22) z.1.2.2.2.2.2 (max (nf2 z) I.2.1.1) (nf3 z) = some t := et
      unfold f_X11_restore
      rw [b13, if_neg (show ¬ nI 1 = 0 by decide), grd_d f0, eq, ob_some, bnd_nr, c_chg, ob_some, et, ob_some, grd_d (by rw [t1, t2]; exact ⟨Nat.le_max_left _ _, Nat.le_refl _, Nat.le_refl _, Nat.le_refl _⟩), es, ob_some]
    have em : f_X12_restore z.2.1 = some (1, r.2) := by
      rw [hy] at er
      rw [← r0]
      simp (disch := omega) only [f_X12_restore, bnd_nr, li_0, li_1, li_2, li_3, li_4, li_5, li_6, li_7, li_8, li_9, li_10, li_11, li_12, li_13, li_14, li_15, li_16, li_17, li_18, li_19, li_20, li_21, li_22, li_23, li_24, li_25, li_26, li_27, li_28, li_29, li_30, li_31, li_32, li_33, li_34, li_35, li_36, li_37, li_38, li_39, li_40, li_41, li_42, li_43, li_44, li_45, li_46, li_47, li_48, li_49, li_50, li_51, li_52, li_53, li_54, li_55, li_56, li_57, li_58, li_59, li_60, li_61, li_62, li_63, li_64, li_74, li_86, li_87, li_88, li_96, li_97, li_98, li_99, li_100, li_101, li_102, li_103, li_104, li_105, li_107, li_108, li_109, li_110, li_111, li_112, li_114, li_115, li_116, li_117, li_118, li_121, li_122, li_124, li_136, li_148, li_160, li_680, li_200, li_201, li_255, li_700, li_950, li_1000, li_1400, li_3440, li_4096, li_9999, li_10000, li_20000, li_20033, li_20038, li_20124, li_32767, li_65535, li_1103515245, li_12345, li_m, sx_grd, sx_clamp, nI_add, sx_sub, pk_mul, sx_le, sx_lt, sx_eq, sx_eqm, sx_meq, sx_lem, sx_mle, sx_ltm, sx_mlt, sx_addm, sx_shl, sx_bit1, sx_bit0, fa_or, uA_s, uA_n, sA_s, sA_n, sx_uA, sx_uAn, sx_sAs, pk_us, pk_un, if_true, if_false, if_pos, if_neg, ob_some, Nat.add_zero, Nat.add_sub_cancel, eq_self, ne_eq, not_true, not_false_iff, false_or, true_or, or_false, or_true, false_and, true_and, and_false, and_true, b53, x54, x55, er]
    obtain ⟨ec9, fm9⟩ := EFm (r := r.2) m1 (fun k hk => i9 k (by omega) (by omega)) (fun j hj => j9 j (by omega) (by omega) (by omega))
    refine ⟨((((sV (sV z.1.1 14 t.1) 16 s, z.1.2.1, ((upd z.1.2.2.1.1 6 (nI 0), z.1.2.2.1.2) : CS), ((z.1.2.2.2.1.1, z.1.2.2.2.1.2.1, sV z.1.2.2.2.1.2.2 0 q) : FS), t.2.1, t.2.2) : XS), r.2, z.2.2) : LZ), nf1 z, max (nf2 z) I.2.1.1, nf3 z, ⟨_, (1, r.2), ea, em, rfl, rfl⟩, ⟨I.1, E, F, I.2.2, I.2.1, true, I, T, k, ⟨⟨w9, e99, cw.2.2⟩, ?_, ?_, ?_, fun _ => ?_⟩, ⟨N, ?_⟩, ?_, ?_, ?_⟩, ⟨Nat.le_refl _, rfl⟩, ⟨Nat.le_max_left _ _, t1⟩, ⟨Nat.le_refl _, t2⟩⟩
    · rw [n9]; exact fok
    · rw [n9]; exact isok
    · rw [n9]; exact iok
    · rw [n9]; exact ⟨⟨w9, e99, rfl⟩, iok, isok⟩
    · show WC E I.1 N ((upd z.1.2.2.1.1 6 (nI 0), z.1.2.2.1.2) : CS) ((sV (sV z.1.1 14 t.1) 16 s) 10) ((sV (sV z.1.1 14 t.1) 16 s) 11) _
      simp (disch := omega) only [sV_n]
      exact WC_new wc qv wc.2.1 wc.2.2
    · show KX F I.2.2 I.2.1 true I (sV (sV z.1.1 14 t.1) 16 s) t.2.1 t.2.2
      unfold KX
      simp (disch := omega) only [sV_n, sV_s]
      obtain ⟨g0, g1, g, hg, g2⟩ := tb
      exact ⟨kx.1, sv, ta, ⟨g, hg⟩, fun _ => ⟨k1, ⟨g0, g1, g, hg, g2⟩, k3⟩⟩
    · refine ⟨⟨?_, ?_⟩, ec9, fm9, ⟨?_, fun j hj => ?_⟩, ⟨?_, fun i hi => ?_⟩, IMm m1 (fun k hk => i9 k (by omega) (by omega)) (fun j hj => j9 j (by omega) (by omega) (by omega))⟩
      · rw [i9 1 (by omega) (by omega), n9]; exact m1.1.1
      · exact RW_cp w9 (fun j hj => by rw [Nat.zero_add, r3 j hj, y2]) x1
      · rw [r1]; exact y48
      · rw [r5 _ (by omega), r5 _ (by omega), r5 _ (by omega), y2]
        exact x3.2 j hj
      · rw [r1]; exact y36
      · exact RW_cp (iok.2 i hi).1 (fun j hj => by rw [r4 _ (by omega), y2]) (x2.2 i hi)
    · show MI true T k ((sV (sV z.1.1 14 t.1) 16 s) 0) z.1.2.1 r.2
      simp (disch := omega) only [sV_n]
      obtain ⟨g1, g2, g3, g4, g5, g6⟩ := mi.u0 (x := nI 0)
      exact ⟨⟨g1.1, (i9 8 (by omega) (by omega)).trans g1.2.1, g1.2.2⟩, g2.of (j9 3 (by omega) (by omega) (by omega)), by rw [i9 10 (by omega) (by omega)]; exact g3, fun i hi => by rw [j9 4 (by omega) (by omega) (by omega)]; exact g4 i hi, g5, by rw [i9 53 (by omega) (by omega)]; exact g6⟩
theorem g_forget (h : IV V E F S A IB I T k z) : GD SK_forget z ar := by
  have h9 := h
  obtain ⟨pu, ⟨N, wc⟩, kx, mX, mi⟩ := h9
  have cw := pu.1
  have fok := pu.2.1
  have sok := pu.2.2.1
  have n12 := cw.1.1.1.1
  have h12 := Nat.le_trans cw.1.hn n12
  have e9 := cw.2.1
  obtain ⟨n1, n2, n3⟩ := wc.n
  have c0 := wc.c0
  have f0 : 0 < z.1.2.2.2.1.1 := by omega
  have m1 := mX.u0 (x := nI 0)
  have wi := wc.id (f := nI)
  have ci := cw.id
  have c0i := wi.c0
  refine ⟨((((sV z.1.1 16 ((upd (z.1.1 16).1 0 (nI 0), (z.1.1 16).2) : Ob), z.1.2.1, z.1.2.2.1, z.1.2.2.2.1, z.1.2.2.2.2.1, z.1.2.2.2.2.2) : XS), ((upd (upd z.2.1.1 0 (nI 0)) 48 (nI 0), z.2.1.2) : MS), z.2.2) : LZ), nf1 z, nf2 z, nf3 z, ⟨_, _, rfl, rfl, rfl⟩, ⟨V, E, F, (0, S.2), A, IB, I, T, k, ⟨pu.1, pu.2.1, ⟨Nat.zero_le _, fun k hk => absurd hk (Nat.not_lt_zero _)⟩, pu.2.2.2⟩, ⟨N, ?_⟩, ?_, ?_, ?_⟩, ⟨Nat.le_refl _, rfl⟩, ⟨Nat.le_refl _, rfl⟩, ⟨Nat.le_refl _, rfl⟩⟩
  · show WC E V N z.1.2.2.1 (sV z.1.1 16 ((upd (z.1.1 16).1 0 (nI 0), (z.1.1 16).2) : Ob) 10) (sV z.1.1 16 ((upd (z.1.1 16).1 0 (nI 0), (z.1.1 16).2) : Ob) 11) z.1.2.2.2.1
    rw [sV_n (by omega), sV_n (by omega)]; exact wc
  · show KX F (0, S.2) A IB I (sV z.1.1 16 ((upd (z.1.1 16).1 0 (nI 0), (z.1.1 16).2) : Ob)) z.1.2.2.2.2.1 z.1.2.2.2.2.2
    unfold KX
    simp (disch := omega) only [sV_n, sV_s]
    exact ⟨kx.1, ⟨u8, fun k hk => absurd hk (Nat.not_lt_zero _)⟩, kx.2.2⟩
  · have i9 : ∀ k, k ≠ 48 → upd (upd z.2.1.1 0 (nI 0)) 48 (nI 0) k = upd z.2.1.1 0 (nI 0) k := fun k hk => pk_un hk
    obtain ⟨ec9, fm9⟩ := EFm (r := ((upd (upd z.2.1.1 0 (nI 0)) 48 (nI 0), z.2.1.2) : MS)) m1 (fun k hk => i9 k (by omega)) (fun j hj => rfl)
    exact ⟨VMm m1 (i9 1 (by omega)) rfl, ec9, fm9, ⟨u00 (M := ((upd z.2.1.1 0 (nI 0), z.2.1.2) : MS)) (x := nI 0) |> fun _ => (show upd (upd z.2.1.1 0 (nI 0)) 48 (nI 0) 48 = _ from pk_us), fun k hk => absurd hk (Nat.not_lt_zero _)⟩, AMm m1 (i9 36 (by omega)) rfl, IMm m1 (fun k hk => i9 k (by omega)) (fun j hj => rfl)⟩
  · show MI IB T k (sV z.1.1 16 ((upd (z.1.1 16).1 0 (nI 0), (z.1.1 16).2) : Ob) 0) z.1.2.1 ((upd (upd z.2.1.1 0 (nI 0)) 48 (nI 0), z.2.1.2) : MS)
    rw [sV_n (by omega)]
    have i9 : ∀ k, k ≠ 48 → upd (upd z.2.1.1 0 (nI 0)) 48 (nI 0) k = upd z.2.1.1 0 (nI 0) k := fun k hk => pk_un hk
    obtain ⟨g1, g2, g3, g4, g5, g6⟩ := mi.u0 (x := nI 0)
    exact ⟨⟨g1.1, (i9 8 (by omega)).trans g1.2.1, g1.2.2⟩, g2, g3.trans (i9 10 (by omega)).symm, g4, g5, (i9 53 (by omega)).trans g6⟩
theorem g_see (h : IV V E F S A IB I T k z) : GD SK_see z ar := by
  have h9 := h
  obtain ⟨pu, ⟨N, wc⟩, kx, mX, mi⟩ := h9
  have cw := pu.1
  have fok := pu.2.1
  have sok := pu.2.2.1
  have n12 := cw.1.1.1.1
  have h12 := Nat.le_trans cw.1.hn n12
  have e9 := cw.2.1
  obtain ⟨n1, n2, n3⟩ := wc.n
  have c0 := wc.c0
  have f0 : 0 < z.1.2.2.2.1.1 := by omega
  have m1 := mX.u0 (x := nI 0)
  have wi := wc.id (f := nI)
  have ci := cw.id
  have c0i := wi.c0
  rcases On.cs (vn V) (by omega) (ar 1) with ⟨i, hi, ei⟩ | b0
  · have ci9 := np_ok (v := z.1.1 0) (fs := z.1.2.2.2.1) f0 c0.1.1 hi n12
    have mi9 := mp_ok (M := ((upd z.2.1.1 0 (nI 0), z.2.1.2) : MS)) u00 m1.1.1 hi n12
    have s48 : z.2.1.1 48 = nI S.1 := mX.2.2.2.1.1
    have s8 := sok.1
    rcases Classical.em (S.1 = 8) with e8 | e8
    · have ea : f_X11_see (z.1.1 0) z.1.2.2.2.1 (z.1.1 16) (nI i) (ar 2) (ar 3) = some (mO, ((z.1.1 0).1, uA (z.1.1 0).2 1 2 ((z.1.1 0).2 1 2 + nI 1)), z.1.1 16) := by
        simp (disch := omega) only [f_X11_see, f_X11_see_J38, bnd_nr, li_0, li_1, li_2, li_3, li_4, li_5, li_6, li_7, li_8, li_9, li_10, li_11, li_12, li_13, li_14, li_15, li_16, li_17, li_18, li_19, li_20, li_21, li_22, li_23, li_24, li_25, li_26, li_27, li_28, li_29, li_30, li_31, li_32, li_33, li_34, li_35, li_36, li_37, li_38, li_39, li_40, li_41, li_42, li_43, li_44, li_45, li_46, li_47, li_48, li_49, li_50, li_51, li_52, li_53, li_54, li_55, li_56, li_57, li_58, li_59, li_60, li_61, li_62, li_63, li_64, li_74, li_86, li_87, li_88, li_96, li_97, li_98, li_99, li_100, li_101, li_102, li_103, li_104, li_105, li_107, li_108, li_109, li_110, li_111, li_112, li_114, li_115, li_116, li_117, li_118, li_121, li_122, li_124, li_136, li_148, li_160, li_680, li_200, li_201, li_255, li_700, li_950, li_1000, li_1400, li_3440, li_4096, li_9999, li_10000, li_20000, li_20033, li_20038, li_20124, li_32767, li_65535, li_1103515245, li_12345, li_m, sx_grd, sx_clamp, nI_add, sx_sub, pk_mul, sx_le, sx_lt, sx_eq, sx_eqm, sx_meq, sx_lem, sx_mle, sx_ltm, sx_mlt, sx_addm, sx_shl, sx_bit1, sx_bit0, fa_or, uA_s, uA_n, sA_s, sA_n, sx_uA, sx_uAn, sx_sAs, pk_us, pk_un, if_true, if_false, if_pos, if_neg, ob_some, Nat.add_zero, Nat.add_sub_cancel, eq_self, ne_eq, not_true, not_false_iff, false_or, true_or, or_false, or_true, false_and, true_and, and_false, and_true, ci9.1, kx.2.1.1, e8, c_ref (x := z.1.1 0) (w := 2) (by omega)]
      have em : f_X12_see z.2.1 (nI i) (ar 2) (ar 3) = some (mO, ((upd z.2.1.1 0 (nI 0), z.2.1.2.1, uA z.2.1.2.2 4 2 (z.2.1.2.2 4 2 + nI 1)) : MS)) := by
        simp (disch := omega) only [f_X12_see, f_X12_see_J44, bnd_nr, li_0, li_1, li_2, li_3, li_4, li_5, li_6, li_7, li_8, li_9, li_10, li_11, li_12, li_13, li_14, li_15, li_16, li_17, li_18, li_19, li_20, li_21, li_22, li_23, li_24, li_25, li_26, li_27, li_28, li_29, li_30, li_31, li_32, li_33, li_34, li_35, li_36, li_37, li_38, li_39, li_40, li_41, li_42, li_43, li_44, li_45, li_46, li_47, li_48, li_49, li_50, li_51, li_52, li_53, li_54, li_55, li_56, li_57, li_58, li_59, li_60, li_61, li_62, li_63, li_64, li_74, li_86, li_87, li_88, li_96, li_97, li_98, li_99, li_100, li_101, li_102, li_103, li_104, li_105, li_107, li_108, li_109, li_110, li_111, li_112, li_114, li_115, li_116, li_117, li_118, li_121, li_122, li_124, li_136, li_148, li_160, li_680, li_200, li_201, li_255, li_700, li_950, li_1000, li_1400, li_3440, li_4096, li_9999, li_10000, li_20000, li_20033, li_20038, li_20124, li_32767, li_65535, li_1103515245, li_12345, li_m, sx_grd, sx_clamp, nI_add, sx_sub, pk_mul, sx_le, sx_lt, sx_eq, sx_eqm, sx_meq, sx_lem, sx_mle, sx_ltm, sx_mlt, sx_addm, sx_shl, sx_bit1, sx_bit0, fa_or, uA_s, uA_n, sA_s, sA_n, sx_uA, sx_uAn, sx_sAs, pk_us, pk_un, if_true, if_false, if_pos, if_neg, ob_some, Nat.add_zero, Nat.add_sub_cancel, eq_self, ne_eq, not_true, not_false_iff, false_or, true_or, or_false, or_true, false_and, true_and, and_false, and_true, mi9, s48, e8, m_ref (M := ((upd z.2.1.1 0 (nI 0), z.2.1.2) : MS)) (w := 2) (by omega)]
      refine GD_r h (x' := sV (sV z.1.1 0 ((z.1.1 0).1, uA (z.1.1 0).2 1 2 ((z.1.1 0).2 1 2 + nI 1))) 16 (z.1.1 16)) (o' := vp_updL z.2.2 (0 : Int32).toNatClampNeg mO.toInt64) (w := 2) (by omega) (by rw [sV_n (by omega), sV_s]) (fun j hj => sV_16 j (by omega)) (Or.inr ⟨(0, ((z.1.1 0).1, uA (z.1.1 0).2 1 2 ((z.1.1 0).2 1 2 + nI 1)), z.1.1 16, vp_updL z.2.2 (0 : Int32).toNatClampNeg mO.toInt64), (mO, ((upd z.2.1.1 0 (nI 0), z.2.1.2.1, uA z.2.1.2.2 4 2 (z.2.1.2.2 4 2 + nI 1)) : MS)), ?_, ?_, th_0 (show upd z.2.1.1 0 (nI 0) 0 = 0 from pk_us), rfl, uL0 (u := z.2.2) (x := mO.toInt64), rfl⟩)
      · rw [ei]
        unfold f_L_see
        rw [ea, ob_some, g01, bnd_nr]
      · rw [ei]; exact em
    · rcases Classical.em (∃ e, 0 ≤ e ∧ e ≤ 20 ∧ ar 2 = nI e) with ⟨e, le, he, ee⟩ | b1
      · have mwe := mw_ok (i := e) (a := 0) (n := 20) le he (by omega)
        rcases Classical.em (∃ e, 1 ≤ e ∧ e ≤ 12 ∧ ar 3 = nI e) with ⟨w, lw, hw, ew⟩ | b2
        · have mww := mw_ok (i := w) (a := 1) (n := 12) lw hw (by omega)
          obtain ⟨t, et, t1⟩ := c_sadd (i := i) (e := e) (w := w) kx.2.1 (by omega)
          have t0 : t.1 0 = nI (S.1 + 1) := t1.1
          obtain ⟨R, hR⟩ : ∃ R : MS, R = ((upd (upd z.2.1.1 0 (nI 0)) 48 (nI (S.1 + 1)), z.2.1.2.1, uA (uA (uA z.2.1.2.2 20 (3 * S.1) (nI i)) 20 (3 * S.1 + 1) (nI e)) 20 (3 * S.1 + 2) (nI w)) : MS) := ⟨_, rfl⟩
          have ea : f_X11_see (z.1.1 0) z.1.2.2.2.1 (z.1.1 16) (nI i) (nI e) (nI w) = some (nI (S.1 + 1), z.1.1 0, t) := by
            simp (disch := omega) only [f_X11_see, f_X11_see_J38, bnd_nr, li_0, li_1, li_2, li_3, li_4, li_5, li_6, li_7, li_8, li_9, li_10, li_11, li_12, li_13, li_14, li_15, li_16, li_17, li_18, li_19, li_20, li_21, li_22, li_23, li_24, li_25, li_26, li_27, li_28, li_29, li_30, li_31, li_32, li_33, li_34, li_35, li_36, li_37, li_38, li_39, li_40, li_41, li_42, li_43, li_44, li_45, li_46, li_47, li_48, li_49, li_50, li_51, li_52, li_53, li_54, li_55, li_56, li_57, li_58, li_59, li_60, li_61, li_62, li_63, li_64, li_74, li_86, li_87, li_88, li_96, li_97, li_98, li_99, li_100, li_101, li_102, li_103, li_104, li_105, li_107, li_108, li_109, li_110, li_111, li_112, li_114, li_115, li_116, li_117, li_118, li_121, li_122, li_124, li_136, li_148, li_160, li_680, li_200, li_201, li_255, li_700, li_950, li_1000, li_1400, li_3440, li_4096, li_9999, li_10000, li_20000, li_20033, li_20038, li_20124, li_32767, li_65535, li_1103515245, li_12345, li_m, sx_grd, sx_clamp, nI_add, sx_sub, pk_mul, sx_le, sx_lt, sx_eq, sx_eqm, sx_meq, sx_lem, sx_mle, sx_ltm, sx_mlt, sx_addm, sx_shl, sx_bit1, sx_bit0, fa_or, uA_s, uA_n, sA_s, sA_n, sx_uA, sx_uAn, sx_sAs, pk_us, pk_un, if_true, if_false, if_pos, if_neg, ob_some, Nat.add_zero, Nat.add_sub_cancel, eq_self, ne_eq, not_true, not_false_iff, false_or, true_or, or_false, or_true, false_and, true_and, and_false, and_true, ci9.1, kx.2.1.1, et, t0]
          have em : f_X12_see z.2.1 (nI i) (nI e) (nI w) = some (nI (S.1 + 1), R) := by
            rw [hR]
            simp (disch := omega) only [f_X12_see, f_X12_see_J44, bnd_nr, li_0, li_1, li_2, li_3, li_4, li_5, li_6, li_7, li_8, li_9, li_10, li_11, li_12, li_13, li_14, li_15, li_16, li_17, li_18, li_19, li_20, li_21, li_22, li_23, li_24, li_25, li_26, li_27, li_28, li_29, li_30, li_31, li_32, li_33, li_34, li_35, li_36, li_37, li_38, li_39, li_40, li_41, li_42, li_43, li_44, li_45, li_46, li_47, li_48, li_49, li_50, li_51, li_52, li_53, li_54, li_55, li_56, li_57, li_58, li_59, li_60, li_61, li_62, li_63, li_64, li_74, li_86, li_87, li_88, li_96, li_97, li_98, li_99, li_100, li_101, li_102, li_103, li_104, li_105, li_107, li_108, li_109, li_110, li_111, li_112, li_114, li_115, li_116, li_117, li_118, li_121, li_122, li_124, li_136, li_148, li_160, li_680, li_200, li_201, li_255, li_700, li_950, li_1000, li_1400, li_3440, li_4096, li_9999, li_10000, li_20000, li_20033, li_20038, li_20124, li_32767, li_65535, li_1103515245, li_12345, li_m, sx_grd, sx_clamp, nI_add, sx_sub, pk_mul, sx_le, sx_lt, sx_eq, sx_eqm, sx_meq, sx_lem, sx_mle, sx_ltm, sx_mlt, sx_addm, sx_shl, sx_bit1, sx_bit0, fa_or, uA_s, uA_n, sA_s, sA_n, sx_uA, sx_uAn, sx_sAs, pk_us, pk_un, if_true, if_false, if_pos, if_neg, ob_some, Nat.add_zero, Nat.add_sub_cancel, eq_self, ne_eq, not_true, not_false_iff, false_or, true_or, or_false, or_true, false_and, true_and, and_false, and_true, mi9, s48, mwe, mww]
          have i9 : ∀ k, k ≠ 48 → R.1 k = (((upd z.2.1.1 0 (nI 0), z.2.1.2) : MS)).1 k := fun k hk => by
            rw [hR]
            show upd (upd z.2.1.1 0 (nI 0)) 48 (nI (S.1 + 1)) k = _
            exact pk_un hk
          have j9 : ∀ j, j ≠ 20 → R.2.2 j = (((upd z.2.1.1 0 (nI 0), z.2.1.2) : MS)).2.2 j := fun j hj => by
            rw [hR]
            show uA (uA (uA z.2.1.2.2 20 (3 * S.1) (nI i)) 20 (3 * S.1 + 1) (nI e)) 20 (3 * S.1 + 2) (nI w) j = _
            rw [uA_n hj, uA_n hj, uA_n hj]
          have sm : SMo R (sN1 S i e w) := by
            rw [hR]
            refine ⟨show upd (upd z.2.1.1 0 (nI 0)) 48 (nI (S.1 + 1)) 48 = _ from pk_us, fun k hk => ?_⟩
            have hk : k < S.1 + 1 := hk
            show uA (uA (uA z.2.1.2.2 20 (3 * S.1) (nI i)) 20 (3 * S.1 + 1) (nI e)) 20 (3 * S.1 + 2) (nI w) 20 (3 * k) = nI (if k = S.1 then i else S.2.1 k) ∧ uA (uA (uA z.2.1.2.2 20 (3 * S.1) (nI i)) 20 (3 * S.1 + 1) (nI e)) 20 (3 * S.1 + 2) (nI w) 20 (3 * k + 1) = nI (if k = S.1 then e else S.2.2.1 k) ∧ uA (uA (uA z.2.1.2.2 20 (3 * S.1) (nI i)) 20 (3 * S.1 + 1) (nI e)) 20 (3 * S.1 + 2) (nI w) 20 (3 * k + 2) = nI (if k = S.1 then w else S.2.2.2 k)
            by_cases c : k = S.1
            · rw [if_pos c, if_pos c, if_pos c, c]
              exact ⟨by rw [uA_sn (by omega), uA_sn (by omega), uA_ss], by rw [uA_sn (by omega), uA_ss], uA_ss⟩
            · rw [if_neg c, if_neg c, if_neg c]
              have o := m1.2.2.2.1.2 k (by omega)
              exact ⟨by rw [uA_sn (by omega), uA_sn (by omega), uA_sn (by omega)]; exact o.1, by rw [uA_sn (by omega), uA_sn (by omega), uA_sn (by omega)]; exact o.2.1, by rw [uA_sn (by omega), uA_sn (by omega), uA_sn (by omega)]; exact o.2.2⟩
          obtain ⟨ec9, fm9⟩ := EFm (r := R) m1 (fun k hk => i9 k (by omega)) (fun j hj => j9 j (by omega))
          have sx : ∀ j, j ≠ 16 → sV (sV z.1.1 0 (z.1.1 0)) 16 t j = z.1.1 j := fun j hj => by rw [sV_n hj, sV_i]
          refine ⟨((((sV (sV z.1.1 0 (z.1.1 0)) 16 t, z.1.2.1, z.1.2.2.1, z.1.2.2.2.1, z.1.2.2.2.2.1, z.1.2.2.2.2.2) : XS), R, vp_updL z.2.2 (0 : Int32).toNatClampNeg (nI (S.1 + 1)).toInt64) : LZ), nf1 z, nf2 z, nf3 z, Or.inr ⟨(0, z.1.1 0, t, vp_updL z.2.2 (0 : Int32).toNatClampNeg (nI (S.1 + 1)).toInt64), (nI (S.1 + 1), R), ?_, ?_, th_0 ((i9 0 (by omega)).trans u00), rfl, uL0 (u := z.2.2) (x := (nI (S.1 + 1)).toInt64), rfl⟩, ⟨V, E, F, sN1 S i e w, A, IB, I, T, k, ⟨pu.1, pu.2.1, SOK_1 sok (by omega) hi he hw, pu.2.2.2⟩, ⟨N, ?_⟩, ?_, ?_, ?_⟩, ⟨Nat.le_refl _, rfl⟩, ⟨Nat.le_refl _, rfl⟩, ⟨Nat.le_refl _, rfl⟩⟩
          · rw [ei, ee, ew]
            unfold f_L_see
            rw [ea, ob_some, g01, bnd_nr]
          · rw [ei, ee, ew]; exact em
          · show WC E V N z.1.2.2.1 (sV (sV z.1.1 0 (z.1.1 0)) 16 t 10) (sV (sV z.1.1 0 (z.1.1 0)) 16 t 11) z.1.2.2.2.1
            rw [sx 10 (by omega), sx 11 (by omega)]; exact wc
          · show KX F (sN1 S i e w) A IB I (sV (sV z.1.1 0 (z.1.1 0)) 16 t) z.1.2.2.2.2.1 z.1.2.2.2.2.2
            unfold KX
            rw [sx 7 (by omega), sV_s, sx 14 (by omega), sx 21 (by omega), sx 22 (by omega), sx 24 (by omega)]
            exact ⟨kx.1, t1, kx.2.2⟩
          · exact ⟨VMm m1 (i9 1 (by omega)) (j9 10 (by omega)), ec9, fm9, sm, AMm m1 (i9 36 (by omega)) (j9 11 (by omega)), IMm m1 (fun k hk => i9 k (by omega)) (fun j hj => j9 j (by omega))⟩
          · show MI IB T k (sV (sV z.1.1 0 (z.1.1 0)) 16 t 0) z.1.2.1 R
            rw [sx 0 (by omega)]
            obtain ⟨g1, g2, g3, g4, g5, g6⟩ := mi.u0 (x := nI 0)
            exact ⟨⟨g1.1, (i9 8 (by omega)).trans g1.2.1, g1.2.2⟩, g2.of (j9 3 (by omega)), g3.trans (i9 10 (by omega)).symm, fun q hq => by rw [j9 4 (by omega)]; exact g4 q hq, g5, (i9 53 (by omega)).trans g6⟩
        · have mww := mw_no (a := 1) (n := 12) (by omega) (by omega) b2
          have cn : ar 3 < nI 1 ∨ (¬ ar 3 < nI 1 ∧ ¬ ar 3 ≤ nI 12) := by
            rcases i_cs (ar 3) with q | ⟨j, hj, ej⟩
            · exact Or.inl (Int32.lt_trans q (by decide))
            · rcases Nat.lt_or_ge j 1 with q | q
              · exact Or.inl (by rw [ej]; exact nI_lt q (by omega))
              · rcases Nat.lt_or_ge 12 j with q2 | q2
                · exact Or.inr ⟨by rw [ej]; exact nI_nlt q hj, by rw [ej]; exact nI_ge q2 hj⟩
                · exact absurd ⟨j, q, q2, ej⟩ b2
          have ea : f_X11_see (z.1.1 0) z.1.2.2.2.1 (z.1.1 16) (nI i) (ar 2) (ar 3) = some (mO, ((z.1.1 0).1, uA (z.1.1 0).2 1 2 ((z.1.1 0).2 1 2 + nI 1)), z.1.1 16) := by
            rcases cn with q | ⟨q1, q2⟩
            · simp (disch := omega) only [f_X11_see, f_X11_see_J38, bnd_nr, li_0, li_1, li_2, li_3, li_4, li_5, li_6, li_7, li_8, li_9, li_10, li_11, li_12, li_13, li_14, li_15, li_16, li_17, li_18, li_19, li_20, li_21, li_22, li_23, li_24, li_25, li_26, li_27, li_28, li_29, li_30, li_31, li_32, li_33, li_34, li_35, li_36, li_37, li_38, li_39, li_40, li_41, li_42, li_43, li_44, li_45, li_46, li_47, li_48, li_49, li_50, li_51, li_52, li_53, li_54, li_55, li_56, li_57, li_58, li_59, li_60, li_61, li_62, li_63, li_64, li_74, li_86, li_87, li_88, li_96, li_97, li_98, li_99, li_100, li_101, li_102, li_103, li_104, li_105, li_107, li_108, li_109, li_110, li_111, li_112, li_114, li_115, li_116, li_117, li_118, li_121, li_122, li_124, li_136, li_148, li_160, li_680, li_200, li_201, li_255, li_700, li_950, li_1000, li_1400, li_3440, li_4096, li_9999, li_10000, li_20000, li_20033, li_20038, li_20124, li_32767, li_65535, li_1103515245, li_12345, li_m, sx_grd, sx_clamp, nI_add, sx_sub, pk_mul, sx_le, sx_lt, sx_eq, sx_eqm, sx_meq, sx_lem, sx_mle, sx_ltm, sx_mlt, sx_addm, sx_shl, sx_bit1, sx_bit0, fa_or, uA_s, uA_n, sA_s, sA_n, sx_uA, sx_uAn, sx_sAs, pk_us, pk_un, if_true, if_false, if_pos, if_neg, ob_some, Nat.add_zero, Nat.add_sub_cancel, eq_self, ne_eq, not_true, not_false_iff, false_or, true_or, or_false, or_true, false_and, true_and, and_false, and_true, ci9.1, kx.2.1.1, ee, q, c_ref (x := z.1.1 0) (w := 2) (by omega)]
            · simp (disch := omega) only [f_X11_see, f_X11_see_J38, bnd_nr, li_0, li_1, li_2, li_3, li_4, li_5, li_6, li_7, li_8, li_9, li_10, li_11, li_12, li_13, li_14, li_15, li_16, li_17, li_18, li_19, li_20, li_21, li_22, li_23, li_24, li_25, li_26, li_27, li_28, li_29, li_30, li_31, li_32, li_33, li_34, li_35, li_36, li_37, li_38, li_39, li_40, li_41, li_42, li_43, li_44, li_45, li_46, li_47, li_48, li_49, li_50, li_51, li_52, li_53, li_54, li_55, li_56, li_57, li_58, li_59, li_60, li_61, li_62, li_63, li_64, li_74, li_86, li_87, li_88, li_96, li_97, li_98, li_99, li_100, li_101, li_102, li_103, li_104, li_105, li_107, li_108, li_109, li_110, li_111, li_112, li_114, li_115, li_116, li_117, li_118, li_121, li_122, li_124, li_136, li_148, li_160, li_680, li_200, li_201, li_255, li_700, li_950, li_1000, li_1400, li_3440, li_4096, li_9999, li_10000, li_20000, li_20033, li_20038, li_20124, li_32767, li_65535, li_1103515245, li_12345, li_m, sx_grd, sx_clamp, nI_add, sx_sub, pk_mul, sx_le, sx_lt, sx_eq, sx_eqm, sx_meq, sx_lem, sx_mle, sx_ltm, sx_mlt, sx_addm, sx_shl, sx_bit1, sx_bit0, fa_or, uA_s, uA_n, sA_s, sA_n, sx_uA, sx_uAn, sx_sAs, pk_us, pk_un, if_true, if_false, if_pos, if_neg, ob_some, Nat.add_zero, Nat.add_sub_cancel, eq_self, ne_eq, not_true, not_false_iff, false_or, true_or, or_false, or_true, false_and, true_and, and_false, and_true, ci9.1, kx.2.1.1, ee, q1, q2, c_ref (x := z.1.1 0) (w := 2) (by omega)]
          have em : f_X12_see z.2.1 (nI i) (ar 2) (ar 3) = some (mO, ((upd z.2.1.1 0 (nI 0), z.2.1.2.1, uA z.2.1.2.2 4 2 (z.2.1.2.2 4 2 + nI 1)) : MS)) := by
            simp (disch := omega) only [f_X12_see, f_X12_see_J44, bnd_nr, li_0, li_1, li_2, li_3, li_4, li_5, li_6, li_7, li_8, li_9, li_10, li_11, li_12, li_13, li_14, li_15, li_16, li_17, li_18, li_19, li_20, li_21, li_22, li_23, li_24, li_25, li_26, li_27, li_28, li_29, li_30, li_31, li_32, li_33, li_34, li_35, li_36, li_37, li_38, li_39, li_40, li_41, li_42, li_43, li_44, li_45, li_46, li_47, li_48, li_49, li_50, li_51, li_52, li_53, li_54, li_55, li_56, li_57, li_58, li_59, li_60, li_61, li_62, li_63, li_64, li_74, li_86, li_87, li_88, li_96, li_97, li_98, li_99, li_100, li_101, li_102, li_103, li_104, li_105, li_107, li_108, li_109, li_110, li_111, li_112, li_114, li_115, li_116, li_117, li_118, li_121, li_122, li_124, li_136, li_148, li_160, li_680, li_200, li_201, li_255, li_700, li_950, li_1000, li_1400, li_3440, li_4096, li_9999, li_10000, li_20000, li_20033, li_20038, li_20124, li_32767, li_65535, li_1103515245, li_12345, li_m, sx_grd, sx_clamp, nI_add, sx_sub, pk_mul, sx_le, sx_lt, sx_eq, sx_eqm, sx_meq, sx_lem, sx_mle, sx_ltm, sx_mlt, sx_addm, sx_shl, sx_bit1, sx_bit0, fa_or, uA_s, uA_n, sA_s, sA_n, sx_uA, sx_uAn, sx_sAs, pk_us, pk_un, if_true, if_false, if_pos, if_neg, ob_some, Nat.add_zero, Nat.add_sub_cancel, eq_self, ne_eq, not_true, not_false_iff, false_or, true_or, or_false, or_true, false_and, true_and, and_false, and_true, mi9, s48, ee, mwe, mww, m_ref (M := ((upd z.2.1.1 0 (nI 0), z.2.1.2) : MS)) (w := 2) (by omega)]
          refine GD_r h (x' := sV (sV z.1.1 0 ((z.1.1 0).1, uA (z.1.1 0).2 1 2 ((z.1.1 0).2 1 2 + nI 1))) 16 (z.1.1 16)) (o' := vp_updL z.2.2 (0 : Int32).toNatClampNeg mO.toInt64) (w := 2) (by omega) (by rw [sV_n (by omega), sV_s]) (fun j hj => sV_16 j (by omega)) (Or.inr ⟨(0, ((z.1.1 0).1, uA (z.1.1 0).2 1 2 ((z.1.1 0).2 1 2 + nI 1)), z.1.1 16, vp_updL z.2.2 (0 : Int32).toNatClampNeg mO.toInt64), (mO, ((upd z.2.1.1 0 (nI 0), z.2.1.2.1, uA z.2.1.2.2 4 2 (z.2.1.2.2 4 2 + nI 1)) : MS)), ?_, ?_, th_0 (show upd z.2.1.1 0 (nI 0) 0 = 0 from pk_us), rfl, uL0 (u := z.2.2) (x := mO.toInt64), rfl⟩)
          · rw [ei]
            unfold f_L_see
            rw [ea, ob_some, g01, bnd_nr]
          · rw [ei]; exact em
      · have mwe := mw_no (a := 0) (n := 20) (by omega) (by omega) b1
        have cn : ar 2 < nI 0 ∨ (¬ ar 2 < nI 0 ∧ nI 20 < ar 2) := by
          rcases i_cs (ar 2) with q | ⟨j, hj, ej⟩
          · exact Or.inl q
          · rcases Nat.lt_or_ge 20 j with q | q
            · exact Or.inr ⟨by rw [ej]; exact nneg hj, by rw [ej]; exact nI_lt q hj⟩
            · exact absurd ⟨j, Nat.zero_le _, q, ej⟩ b1
        have ea : f_X11_see (z.1.1 0) z.1.2.2.2.1 (z.1.1 16) (nI i) (ar 2) (ar 3) = some (mO, ((z.1.1 0).1, uA (z.1.1 0).2 1 2 ((z.1.1 0).2 1 2 + nI 1)), z.1.1 16) := by
          rcases cn with q | ⟨q1, q2⟩
          · simp (disch := omega) only [f_X11_see, f_X11_see_J38, bnd_nr, li_0, li_1, li_2, li_3, li_4, li_5, li_6, li_7, li_8, li_9, li_10, li_11, li_12, li_13, li_14, li_15, li_16, li_17, li_18, li_19, li_20, li_21, li_22, li_23, li_24, li_25, li_26, li_27, li_28, li_29, li_30, li_31, li_32, li_33, li_34, li_35, li_36, li_37, li_38, li_39, li_40, li_41, li_42, li_43, li_44, li_45, li_46, li_47, li_48, li_49, li_50, li_51, li_52, li_53, li_54, li_55, li_56, li_57, li_58, li_59, li_60, li_61, li_62, li_63, li_64, li_74, li_86, li_87, li_88, li_96, li_97, li_98, li_99, li_100, li_101, li_102, li_103, li_104, li_105, li_107, li_108, li_109, li_110, li_111, li_112, li_114, li_115, li_116, li_117, li_118, li_121, li_122, li_124, li_136, li_148, li_160, li_680, li_200, li_201, li_255, li_700, li_950, li_1000, li_1400, li_3440, li_4096, li_9999, li_10000, li_20000, li_20033, li_20038, li_20124, li_32767, li_65535, li_1103515245, li_12345, li_m, sx_grd, sx_clamp, nI_add, sx_sub, pk_mul, sx_le, sx_lt, sx_eq, sx_eqm, sx_meq, sx_lem, sx_mle, sx_ltm, sx_mlt, sx_addm, sx_shl, sx_bit1, sx_bit0, fa_or, uA_s, uA_n, sA_s, sA_n, sx_uA, sx_uAn, sx_sAs, pk_us, pk_un, if_true, if_false, if_pos, if_neg, ob_some, Nat.add_zero, Nat.add_sub_cancel, eq_self, ne_eq, not_true, not_false_iff, false_or, true_or, or_false, or_true, false_and, true_and, and_false, and_true, ci9.1, kx.2.1.1, q, c_ref (x := z.1.1 0) (w := 2) (by omega)]
          · simp (disch := omega) only [f_X11_see, f_X11_see_J38, bnd_nr, li_0, li_1, li_2, li_3, li_4, li_5, li_6, li_7, li_8, li_9, li_10, li_11, li_12, li_13, li_14, li_15, li_16, li_17, li_18, li_19, li_20, li_21, li_22, li_23, li_24, li_25, li_26, li_27, li_28, li_29, li_30, li_31, li_32, li_33, li_34, li_35, li_36, li_37, li_38, li_39, li_40, li_41, li_42, li_43, li_44, li_45, li_46, li_47, li_48, li_49, li_50, li_51, li_52, li_53, li_54, li_55, li_56, li_57, li_58, li_59, li_60, li_61, li_62, li_63, li_64, li_74, li_86, li_87, li_88, li_96, li_97, li_98, li_99, li_100, li_101, li_102, li_103, li_104, li_105, li_107, li_108, li_109, li_110, li_111, li_112, li_114, li_115, li_116, li_117, li_118, li_121, li_122, li_124, li_136, li_148, li_160, li_680, li_200, li_201, li_255, li_700, li_950, li_1000, li_1400, li_3440, li_4096, li_9999, li_10000, li_20000, li_20033, li_20038, li_20124, li_32767, li_65535, li_1103515245, li_12345, li_m, sx_grd, sx_clamp, nI_add, sx_sub, pk_mul, sx_le, sx_lt, sx_eq, sx_eqm, sx_meq, sx_lem, sx_mle, sx_ltm, sx_mlt, sx_addm, sx_shl, sx_bit1, sx_bit0, fa_or, uA_s, uA_n, sA_s, sA_n, sx_uA, sx_uAn, sx_sAs, pk_us, pk_un, if_true, if_false, if_pos, if_neg, ob_some, Nat.add_zero, Nat.add_sub_cancel, eq_self, ne_eq, not_true, not_false_iff, false_or, true_or, or_false, or_true, false_and, true_and, and_false, and_true, ci9.1, kx.2.1.1, q1, q2, c_ref (x := z.1.1 0) (w := 2) (by omega)]
        have em : f_X12_see z.2.1 (nI i) (ar 2) (ar 3) = some (mO, ((upd z.2.1.1 0 (nI 0), z.2.1.2.1, uA z.2.1.2.2 4 2 (z.2.1.2.2 4 2 + nI 1)) : MS)) := by
          simp (disch := omega) only [f_X12_see, f_X12_see_J44, bnd_nr, li_0, li_1, li_2, li_3, li_4, li_5, li_6, li_7, li_8, li_9, li_10, li_11, li_12, li_13, li_14, li_15, li_16, li_17, li_18, li_19, li_20, li_21, li_22, li_23, li_24, li_25, li_26, li_27, li_28, li_29, li_30, li_31, li_32, li_33, li_34, li_35, li_36, li_37, li_38, li_39, li_40, li_41, li_42, li_43, li_44, li_45, li_46, li_47, li_48, li_49, li_50, li_51, li_52, li_53, li_54, li_55, li_56, li_57, li_58, li_59, li_60, li_61, li_62, li_63, li_64, li_74, li_86, li_87, li_88, li_96, li_97, li_98, li_99, li_100, li_101, li_102, li_103, li_104, li_105, li_107, li_108, li_109, li_110, li_111, li_112, li_114, li_115, li_116, li_117, li_118, li_121, li_122, li_124, li_136, li_148, li_160, li_680, li_200, li_201, li_255, li_700, li_950, li_1000, li_1400, li_3440, li_4096, li_9999, li_10000, li_20000, li_20033, li_20038, li_20124, li_32767, li_65535, li_1103515245, li_12345, li_m, sx_grd, sx_clamp, nI_add, sx_sub, pk_mul, sx_le, sx_lt, sx_eq, sx_eqm, sx_meq, sx_lem, sx_mle, sx_ltm, sx_mlt, sx_addm, sx_shl, sx_bit1, sx_bit0, fa_or, uA_s, uA_n, sA_s, sA_n, sx_uA, sx_uAn, sx_sAs, pk_us, pk_un, if_true, if_false, if_pos, if_neg, ob_some, Nat.add_zero, Nat.add_sub_cancel, eq_self, ne_eq, not_true, not_false_iff, false_or, true_or, or_false, or_true, false_and, true_and, and_false, and_true, mi9, s48, mwe, m_ref (M := ((upd z.2.1.1 0 (nI 0), z.2.1.2) : MS)) (w := 2) (by omega)]
        refine GD_r h (x' := sV (sV z.1.1 0 ((z.1.1 0).1, uA (z.1.1 0).2 1 2 ((z.1.1 0).2 1 2 + nI 1))) 16 (z.1.1 16)) (o' := vp_updL z.2.2 (0 : Int32).toNatClampNeg mO.toInt64) (w := 2) (by omega) (by rw [sV_n (by omega), sV_s]) (fun j hj => sV_16 j (by omega)) (Or.inr ⟨(0, ((z.1.1 0).1, uA (z.1.1 0).2 1 2 ((z.1.1 0).2 1 2 + nI 1)), z.1.1 16, vp_updL z.2.2 (0 : Int32).toNatClampNeg mO.toInt64), (mO, ((upd z.2.1.1 0 (nI 0), z.2.1.2.1, uA z.2.1.2.2 4 2 (z.2.1.2.2 4 2 + nI 1)) : MS)), ?_, ?_, th_0 (show upd z.2.1.1 0 (nI 0) 0 = 0 from pk_us), rfl, uL0 (u := z.2.2) (x := mO.toInt64), rfl⟩)
        · rw [ei]
          unfold f_L_see
          rw [ea, ob_some, g01, bnd_nr]
        · rw [ei]; exact em
  · refine GD_t h (M' := ((upd (upd z.2.1.1 0 (nI 0)) 0 (nI 1), z.2.1.2) : MS)) (o' := z.2.2) QF_t (Or.inl ⟨(0, ((upd (upd z.2.1.1 0 (nI 0)) 0 (nI 1), z.2.1.2) : MS)), ?_, ?_, th_T, rfl⟩)
    · simp (disch := omega) only [t_X11_see, bnd_nr, li_0, li_1, li_2, li_3, li_4, li_5, li_6, li_7, li_8, li_9, li_10, li_11, li_12, li_13, li_14, li_15, li_16, li_17, li_18, li_19, li_20, li_21, li_22, li_23, li_24, li_25, li_26, li_27, li_28, li_29, li_30, li_31, li_32, li_33, li_34, li_35, li_36, li_37, li_38, li_39, li_40, li_41, li_42, li_43, li_44, li_45, li_46, li_47, li_48, li_49, li_50, li_51, li_52, li_53, li_54, li_55, li_56, li_57, li_58, li_59, li_60, li_61, li_62, li_63, li_64, li_74, li_86, li_87, li_88, li_96, li_97, li_98, li_99, li_100, li_101, li_102, li_103, li_104, li_105, li_107, li_108, li_109, li_110, li_111, li_112, li_114, li_115, li_116, li_117, li_118, li_121, li_122, li_124, li_136, li_148, li_160, li_680, li_200, li_201, li_255, li_700, li_950, li_1000, li_1400, li_3440, li_4096, li_9999, li_10000, li_20000, li_20033, li_20038, li_20124, li_32767, li_65535, li_1103515245, li_12345, li_m, sx_grd, sx_clamp, nI_add, sx_sub, pk_mul, sx_le, sx_lt, sx_eq, sx_eqm, sx_meq, sx_lem, sx_mle, sx_ltm, sx_mlt, sx_addm, sx_shl, sx_bit1, sx_bit0, fa_or, uA_s, uA_n, sA_s, sA_n, sx_uA, sx_uAn, sx_sAs, pk_us, pk_un, if_true, if_false, if_pos, if_neg, ob_some, Nat.add_zero, Nat.add_sub_cancel, eq_self, ne_eq, not_true, not_false_iff, false_or, true_or, or_false, or_true, false_and, true_and, and_false, and_true, np_no f0 c0.1.1 n12 b0]
    · simp (disch := omega) only [f_X12_see, bnd_nr, li_0, li_1, li_2, li_3, li_4, li_5, li_6, li_7, li_8, li_9, li_10, li_11, li_12, li_13, li_14, li_15, li_16, li_17, li_18, li_19, li_20, li_21, li_22, li_23, li_24, li_25, li_26, li_27, li_28, li_29, li_30, li_31, li_32, li_33, li_34, li_35, li_36, li_37, li_38, li_39, li_40, li_41, li_42, li_43, li_44, li_45, li_46, li_47, li_48, li_49, li_50, li_51, li_52, li_53, li_54, li_55, li_56, li_57, li_58, li_59, li_60, li_61, li_62, li_63, li_64, li_74, li_86, li_87, li_88, li_96, li_97, li_98, li_99, li_100, li_101, li_102, li_103, li_104, li_105, li_107, li_108, li_109, li_110, li_111, li_112, li_114, li_115, li_116, li_117, li_118, li_121, li_122, li_124, li_136, li_148, li_160, li_680, li_200, li_201, li_255, li_700, li_950, li_1000, li_1400, li_3440, li_4096, li_9999, li_10000, li_20000, li_20033, li_20038, li_20124, li_32767, li_65535, li_1103515245, li_12345, li_m, sx_grd, sx_clamp, nI_add, sx_sub, pk_mul, sx_le, sx_lt, sx_eq, sx_eqm, sx_meq, sx_lem, sx_mle, sx_ltm, sx_mlt, sx_addm, sx_shl, sx_bit1, sx_bit0, fa_or, uA_s, uA_n, sA_s, sA_n, sx_uA, sx_uAn, sx_sAs, pk_us, pk_un, if_true, if_false, if_pos, if_neg, ob_some, Nat.add_zero, Nat.add_sub_cancel, eq_self, ne_eq, not_true, not_false_iff, false_or, true_or, or_false, or_true, false_and, true_and, and_false, and_true, mp_no (M := ((upd z.2.1.1 0 (nI 0), z.2.1.2) : MS)) u00 m1.1.1 b0] <;> rfl
end SKS
