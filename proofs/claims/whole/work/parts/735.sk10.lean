section SKS
variable {V : VT} {E : RE} {F : FD} {S : SN} {A : AC} {IB : Bool} {I : IG} {T : Nat → Nat} {k : Nat} {z : LZ} {ar : Nat → Int32}
theorem g_feed (h : IV V E F S A IB I T k z) : GD SK_feed z ar := by
  have h9 := h
  obtain ⟨pu, ⟨N, wc⟩, kx, mX, mi⟩ := h9
  have cw := pu.1
  have fok := pu.2.1
  have sok := pu.2.2.1
  have n12 := cw.1.1.1.1
  have h12 := Nat.le_trans cw.1.hn n12
  have e9 := cw.2.1
  obtain ⟨n1, n2, n3⟩ := wc.n
  have c0 := wc.c0
  have f0 : 0 < z.1.2.2.2.1.1 := by omega
  have m1 := mX.u0 (x := nI 0)
  have wi := wc.id (f := nI)
  have ci := cw.id
  have c0i := wi.c0
  have k1 := mi.1.1
  have k8 : (((upd z.2.1.1 0 (nI 0), z.2.1.2) : MS)).1 8 = nI k := (mi.u0 (x := nI 0)).1.2.1
  have k8z : z.2.1.1 8 = nI k := mi.1.2.1
  have k7 := mi.1.2.2
  have tp0 : TAPE T k z.1.2.1 ((upd z.2.1.1 0 (nI 0), z.2.1.2) : MS) := (mi.u0 (x := nI 0)).2.1
  rcases Nat.lt_or_ge 680 k with kk | kk
  · have ea : f_X11_feed (z.1.1 0) z.1.2.1 (ar 1) (ar 2) (ar 3) (ar 4) (ar 5) = some (mO, z.1.1 0, z.1.2.1) := by
      unfold f_X11_feed
      rw [k1, if_neg (show ¬ nI k ≤ (680 : Int32) from nI_ge (a := 680) kk (by omega))]
      rfl
    have em : f_X12_feed z.2.1 (ar 1) (ar 2) (ar 3) (ar 4) (ar 5) = some (mO, ((upd z.2.1.1 0 (nI 0), z.2.1.2) : MS)) := by
      unfold f_X12_feed
      rw [bnd_nr, show ((upd z.2.1.1 0 (0 : Int32), z.2.1.2) : MS).1 8 = nI k from k8, show nI k + 20 = nI (k + 20) from nI_add k 20, if_neg (show ¬ nI (k + 20) ≤ (700 : Int32) from nI_ge (a := 700) (by omega) (by omega))]
      rfl
    exact GD_q h (x' := sV z.1.1 0 (z.1.1 0)) (cs' := z.1.2.2.1) (f1' := z.1.2.2.2.1) (M' := ((upd z.2.1.1 0 (nI 0), z.2.1.2) : MS)) (o' := z.2.2) (N := N) (fun j _ => sV_i j) (by rw [sV_i, sV_i]; exact wc) (QF.refl _) (by show z.1.2.2.2.1.1 ≤ _; omega) ⟨(mO, z.1.1 0, z.1.2.1), (mO, ((upd z.2.1.1 0 (nI 0), z.2.1.2) : MS)), ea, em, rfl, rfl⟩
  · have mz := m1
    obtain ⟨T1, r1, m1, er1, em1, t1, a1, b1, c1, d1, f1⟩ := put1 (ar 1) tp0 k1 k8 (by omega)
    obtain ⟨T2, r2, m2, er2, em2, t2, a2, b2, c2, d2, f2⟩ := put1 (ar 2) t1 a1 b1 (by omega)
    obtain ⟨T3, r3, m3, er3, em3, t3, a3, b3, c3, d3, f3⟩ := put1 (ar 3) t2 a2 b2 (by omega)
    obtain ⟨T4, r4, m4, er4, em4, t4, a4, b4, c4, d4, f4⟩ := put1 (ar 4) t3 a3 b3 (by omega)
    obtain ⟨T5, r5, m5, er5, em5, t5, a5, b5, c5, d5, f5⟩ := put1 (ar 5) t4 a4 b4 (by omega)
    have i9 : ∀ j, j ≠ 8 → m5.1 j = (((upd z.2.1.1 0 (nI 0), z.2.1.2) : MS)).1 j := fun j hj => ((((d5 j hj).trans (d4 j hj)).trans (d3 j hj)).trans (d2 j hj)).trans (d1 j hj)
    have j9 : ∀ j, j ≠ 3 → m5.2.2 j = (((upd z.2.1.1 0 (nI 0), z.2.1.2) : MS)).2.2 j := fun j hj => ((((f5 j hj).trans (f4 j hj)).trans (f3 j hj)).trans (f2 j hj)).trans (f1 j hj)
    have x1 : ∀ j, j ≠ 1 → r5.1.1 j = (z.1.1 0).1 j := fun j hj => ((((c5.1 j hj).trans (c4.1 j hj)).trans (c3.1 j hj)).trans (c2.1 j hj)).trans (c1.1 j hj)
    have x2 : r5.1.2 = (z.1.1 0).2 := (((c5.2.trans c4.2).trans c3.2).trans c2.2).trans c1.2
    have ea : f_X11_feed (z.1.1 0) z.1.2.1 (ar 1) (ar 2) (ar 3) (ar 4) (ar 5) = some (nI (k + 4 + 4 + 4 + 4 + 4), r5.1, r5.2) := by
      unfold f_X11_feed
      rw [k1, if_pos (show nI k ≤ (680 : Int32) from nI_le (b := 680) kk (by omega)), er1, ob_some, er2, ob_some, er3, ob_some, er4, ob_some, er5, ob_some, a5]
    have em : f_X12_feed z.2.1 (ar 1) (ar 2) (ar 3) (ar 4) (ar 5) = some (nI (k + 4 + 4 + 4 + 4 + 4), m5) := by
      have em1 : f_X12_lays ((upd z.2.1.1 0 (0 : Int32), z.2.1.2) : MS) (ar 1) = some m1 := em1
      unfold f_X12_feed
      rw [bnd_nr, show ((upd z.2.1.1 0 (0 : Int32), z.2.1.2) : MS).1 8 = nI k from k8, show nI k + 20 = nI (k + 20) from nI_add k 20, if_pos (show nI (k + 20) ≤ (700 : Int32) from nI_le (b := 700) (by omega) (by omega)), em1, ob_some, em2, ob_some, em3, ob_some, em4, ob_some, em5, ob_some, b5]
    obtain ⟨ec9, fm9⟩ := EFm (r := m5) mz (fun k hk => i9 k (by omega)) (fun j hj => j9 j (by omega))
    refine ⟨((((sV z.1.1 0 r5.1, r5.2, z.1.2.2.1, z.1.2.2.2.1, z.1.2.2.2.2.1, z.1.2.2.2.2.2) : XS), m5, z.2.2) : LZ), nf1 z, nf2 z, nf3 z, ⟨_, _, ea, em, rfl, rfl⟩, ⟨V, E, F, S, A, IB, I, T5, k + 4 + 4 + 4 + 4 + 4, pu, ⟨N, ?_⟩, ?_, ?_, ?_⟩, ⟨Nat.le_refl _, rfl⟩, ⟨Nat.le_refl _, rfl⟩, ⟨Nat.le_refl _, rfl⟩⟩
    · show WC E V N z.1.2.2.1 (sV z.1.1 0 r5.1 10) (sV z.1.1 0 r5.1 11) z.1.2.2.2.1
      rw [sV_n (by omega), sV_n (by omega)]; exact wc
    · show KX F S A IB I (sV z.1.1 0 r5.1) z.1.2.2.2.2.1 z.1.2.2.2.2.2
      unfold KX
      simp (disch := omega) only [sV_n]
      exact kx
    · exact ⟨VMm mz (i9 1 (by omega)) (j9 10 (by omega)), ec9, fm9, SMm mz (i9 48 (by omega)) (j9 20 (by omega)), AMm mz (i9 36 (by omega)) (j9 11 (by omega)), IMm mz (fun k hk => i9 k (by omega)) (fun j hj => j9 j (by omega))⟩
    · show MI IB T5 (k + 4 + 4 + 4 + 4 + 4) (sV z.1.1 0 r5.1 0) r5.2 m5
      rw [sV_s]
      obtain ⟨g1, g2, g3, g4, g5, g6⟩ := mi.u0 (x := nI 0)
      exact ⟨⟨a5, b5, by omega⟩, t5, by rw [x1 2 (by omega), i9 10 (by omega)]; exact g3, fun i hi => by rw [x2, j9 4 (by omega)]; exact g4 i hi, by rw [x1 13 (by omega)]; exact g5, by rw [i9 53 (by omega)]; exact g6⟩
end SKS
