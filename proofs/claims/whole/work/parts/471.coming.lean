def f_X1_changed (v : CS) (v_d : Ob) (v_d_p : Ob) (v_d_k : Ob) (v_k : Ob) (v_r : FS) : Option (CS) := bnd (upd v.1 6 (0 : Int32), v.2) (fun y1 => some (y1))
set_option maxRecDepth 20000 in
theorem c_X1_changed {l : Launch} {D : va_G} {dT : Nat → ClassId} {a : Nat → Nat} {a_d : Nat → Nat} {a_d_p : Nat → Nat} {a_d_k : Nat → Nat} {a_k : Nat → Nat} {a_r : Nat → Nat → Nat} {v : CS} {v_d : Ob} {v_d_p : Ob} {v_d_k : Ob} {v_k : Ob} {v_r : FS} {res : CS} (hf : f_X1_changed v v_d v_d_p v_d_k v_k v_r = some res) : CTv l yX1_changed cX1_changed 1 none ({ frames := 0, cells := 0, slots := 0, locals := 0 } : Room) D dT [.ref (a 0)] ([wC dT a (a_d 0) (a_r 0 0) (a_k 0) (pim a_r v_r.2.1) v, wD dT a_d (a_d_p 0) (a_d_k 0) v_d, wR dT a_d_p v_d_p, wR dT a_d_k v_d_k, wK dT a_k v_k, wRw dT v_r.1 a_r v_r.2.2]) ([wC dT a (a_d 0) (a_r 0 0) (a_k 0) (pim a_r v_r.2.1) res, wD dT a_d (a_d_p 0) (a_d_k 0) v_d, wR dT a_d_p v_d_p, wR dT a_d_k v_d_k, wK dT a_k v_k, wRw dT v_r.1 a_r v_r.2.2]) := by
  refine CTv.of (by decide) (Nat.le_of_ble_eq_true rfl) rfl ?_
  intro p e s m args below meth c A C
  unfold f_X1_changed at hf
  refine wa_aload_n C 0 1 dX1_changed_0 rfl rfl ?_
  refine wa_iconst (v := 0) C 2 dX1_changed_1 rfl rfl ?_
  obtain ⟨y1, ey1, hf⟩ := bnd_ex hf
  refine wa_put (ws' := [wC dT a (a_d 0) (a_r 0 0) (a_k 0) (pim a_r v_r.2.1) y1, wD dT a_d (a_d_p 0) (a_d_k 0) v_d, wR dT a_d_p v_d_p, wR dT a_d_k v_d_k, wK dT a_k v_k, wRw dT v_r.1 a_r v_r.2.2]) C 5 0 0 6 tyX1 dX1_changed_2 rfl iX1 tyX1_ok nmX1 q256 rfl (Nat.le_of_ble_eq_true rfl) rfl rfl rfl rfl rfl (Nat.le_of_ble_eq_true rfl) (by rw [ey1]; rfl) ?_
  cases hf
  exact wa_vret C dX1_changed_5 rfl
theorem kv_X1_45 : KV RX1 45 yX1_row cX1_row 2 (some (.object "NewHouses$Village")) 1 := KV.mk q453 q455 qs4 q7 q456 ⟨by decide, by decide, by decide +kernel⟩
theorem kv_X1_49 : KV RX1 49 yX10_copyFrom cX10_copyFrom 2 none 1 := KV.mk q458 q443 q444 q3 q445 ⟨by decide, by decide, by decide +kernel⟩
theorem kv_X1_53 : KV RX1 53 yX2_pass cX2_pass 4 (some .int) 2 := KV.mk q459 q460 q461 q6 q462 ⟨by decide, by decide, by decide +kernel⟩
def f_X1_behind_J64 (B5 : Nat) (z4 : Ob) (l1 : Int32) (z0 : CS) (z1 : Ob) (z2 : Ob) (z3 : Ob) (z5 : FS) : Option (Nat × CS × Ob × Ob × Ob × FS) := (rowF 201 z5 l1).bind (fun q3 => grd (decide (0 < z5.1 ∧ z5.1 ≤ q3.2.1 ∧ q3.2.1 ≤ B5)) (some (q3.1, z0, z1, z2, z3, q3.2)))
def f_X1_behind_L5 (B5 : Nat) (l1 : Int32) (z4 : Ob) : Nat → Int32 → CS → Ob → Ob → Ob → FS → Option (Nat × CS × Ob × Ob × Ob × FS)
  | 0, _, _, _, _, _, _ => none
  | n + 1, l2, z0, z1, z2, z3, z5 => (if l1 ≤ l2 then f_X1_behind_J64 B5 z4 l1 z0 z1 z2 z3 z5 else (if (200 : Int32) ≤ l2 then f_X1_behind_J64 B5 z4 l1 z0 z1 z2 z3 z5 else (rowF 201 z5 (l2 + (1 : Int32))).bind (fun q7 => grd (decide (0 < z5.1 ∧ z5.1 ≤ q7.2.1 ∧ q7.2.1 ≤ B5)) ((rowF 201 q7.2 l2).bind (fun q10 => grd (decide (0 < q7.2.1 ∧ q7.2.1 ≤ q10.2.1 ∧ q10.2.1 ≤ B5 ∧ q7.1 < q7.2.1 ∧ q7.1 < q7.2.1)) (grd (decide (q7.1 < q10.2.1)) (grd (decide (q10.1 < q10.2.1 ∧ q10.1 ≠ q7.1)) ((f_X10_copyFrom (q10.2.2.2 q7.1) (q10.2.2.2 q10.1)).bind (fun q15 => bnd ((q10.2.1, q10.2.2.1, sV q10.2.2.2 q7.1 q15) : FS) (fun y17 => grd (decide (q7.1 < y17.1)) ((f_X2_pass z1 z2 z3 (y17.2.2 q7.1) (0 : Int32)).bind (fun q19 => bnd ((y17.1, y17.2.1, sV y17.2.2 q7.1 q19.2.2.2.2) : FS) (fun y21 => grd (vi (l2 + (1 : Int32)) 201) (bnd (z0.1, z0.2.1, uA z0.2.2 2 ((l2 + (1 : Int32))).toNatClampNeg q19.1) (fun y23 => bnd (upd y23.1 6 (l2 + (1 : Int32)), y23.2) (fun y24 => bnd (l2 + 1) (fun x25 => f_X1_behind_L5 B5 l1 z4 n x25 y24 q19.2.1 q19.2.2.1 q19.2.2.2.1 y21)))))))))))))))))
def f_X1_behind (v : CS) (v_d : Ob) (v_d_p : Ob) (v_d_k : Ob) (v_k : Ob) (v_r : FS) (B5 : Nat) (p0 : Int32) : Option (Nat × CS × Ob × Ob × Ob × FS) := bnd (v.1 6) (fun x1 => f_X1_behind_L5 B5 p0 v_k FUEL x1 v v_d v_d_p v_d_k v_r)
set_option maxRecDepth 20000 in
theorem w_X1_behind_J64 {p : Program} {l : Launch} {e : Env} {s : State} {m : MethodId} {args : Array Value} {below : List Frame} {meth : Method} {c : Code} {D : va_G} {A : Nat → Prop} {dT : Nat → ClassId} {a : Nat → Nat} {a_d : Nat → Nat} {a_d_p : Nat → Nat} {a_d_k : Nat → Nat} {a_k : Nat → Nat} {m5 B5 : Nat} {r5 : Nat → Nat → Nat} {res : Nat × CS × Ob × Ob × Ob × FS} {z4 : Ob} (C : Cx p s m args meth c cX1_behind 4 RX1 (some (.object "NewHouses$Village")) D A dT) : ∀ (l1 : Int32) (z0 : CS) (z1 : Ob) (z2 : Ob) (z3 : Ob) (z5 : FS) (rr5 : Nat → Nat → Nat), m5 ≤ z5.1 → z5.1 - m5 ≤ B5 - m5 → (∀ k, k < m5 → rr5 k = r5 k) → f_X1_behind_J64 B5 z4 l1 z0 z1 z2 z3 z5 = some res → WA p l e ({ frames := 6, cells := 8 * ((B5 - m5)), slots := 96 * ((B5 - m5)), locals := 130 } : Room) s m args below meth c (MQ below (va_Qr (fun u : (Nat → Nat → Nat) => (∀ k, k < m5 → u k = r5 k)) (fun u a9 t => a9 = (fun u : (Nat → Nat → Nat) => u res.1 0) u ∧ WB D dT A ((fun u : (Nat → Nat → Nat) => [wC dT a (a_d 0) (u 0 0) (a_k 0) (pim u res.2.2.2.2.2.2.1) res.2.1, wD dT a_d (a_d_p 0) (a_d_k 0) res.2.2.1, wR dT a_d_p res.2.2.2.1, wR dT a_d_k res.2.2.2.2.1, wK dT a_k z4, wRw dT res.2.2.2.2.2.1 u res.2.2.2.2.2.2.2]) u) t) A) args s (8 * ((B5 - m5))) (96 * ((B5 - m5))) A) D A (8 * ((z5.1 - m5))) (96 * ((z5.1 - m5))) 4 64 ([wC dT a (a_d 0) (rr5 0 0) (a_k 0) (pim rr5 z5.2.1) z0, wD dT a_d (a_d_p 0) (a_d_k 0) z1, wR dT a_d_p z2, wR dT a_d_k z3, wK dT a_k z4, wRw dT z5.1 rr5 z5.2.2]) [(0, .ref (a 0)), (1, .int l1)] [] := by
  intro l1 z0 z1 z2 z3 z5 rr5 hm5 hb5 hg5 hf
  unfold f_X1_behind_J64 at hf
  refine wa_aload_n C 0 65 dX1_behind_64 rfl rfl ?_
  refine wa_iload_n C 1 66 dX1_behind_65 rfl rfl ?_
  obtain ⟨q3, hq3, hf⟩ := bind_ex hf
  obtain ⟨g4, hf⟩ := grd_ex hf
  replace g4 := of_decide_eq_true g4
  refine wa_callMr (b1 := 0) (q1 := 0) (ci := 1) (As := [.int l1]) C (fun ru5 => [wC dT a (a_d 0) (rr5 0 0) (a_k 0) (pim ru5 q3.2.2.1) z0, wD dT a_d (a_d_p 0) (a_d_k 0) z1, wR dT a_d_p z2, wR dT a_d_k z3, wK dT a_k z4, wRw dT q3.2.1 ru5 q3.2.2.2]) 69 dX1_behind_66 rfl kv_X1_45 (c_X1_row hq3) ⟨rfl, rfl⟩ ⟨Nat.le_of_ble_eq_true rfl, Nat.le_of_ble_eq_true rfl⟩ rfl rfl rfl [0, 5] [1, 2, 3, 4] [4, 0, 1, 2, 3, 5] rfl rfl rfl rfl (by decide) rfl (fun _ => rfl) rfl rfl ⟨by show (8 * ((z5.1 - m5))) + 8 * (q3.2.1 - z5.1) ≤ 8 * ((B5 - m5)); omega, by show (96 * ((z5.1 - m5))) + 96 * (q3.2.1 - z5.1) ≤ 96 * ((B5 - m5)); omega⟩ (Nat.le_of_ble_eq_true rfl) (fun ru5 hu => ?_)
  refine wa_ws (ws' := [wC dT a (a_d 0) (ru5 0 0) (a_k 0) (pim ru5 q3.2.2.1) z0, wD dT a_d (a_d_p 0) (a_d_k 0) z1, wR dT a_d_p z2, wR dT a_d_k z3, wK dT a_k z4, wRw dT q3.2.1 ru5 q3.2.2.2]) (by rw [hu 0 (by omega)]) ?_
  refine wa_widen (k := (8 * ((q3.2.1 - m5)))) (n := (96 * ((q3.2.1 - m5)))) (by omega) (by omega) ?_
  replace hg5 : ∀ k, k < m5 → ru5 k = r5 k := fun k hk => (hu k (by omega)).trans (hg5 k hk)
  replace hm5 : m5 ≤ q3.2.1 := by omega
  replace hb5 : q3.2.1 - m5 ≤ B5 - m5 := by omega
  cases hf
  exact wa_arm C (ru5) dX1_behind_69 hg5 rfl rfl (by show (8 * ((q3.2.1 - m5))) ≤ 8 * ((B5 - m5)); omega) (by show (96 * ((q3.2.1 - m5))) ≤ 96 * ((B5 - m5)); omega)
set_option maxRecDepth 20000 in
theorem w_X1_behind_L5 {p : Program} {l : Launch} {e : Env} {s : State} {m : MethodId} {args : Array Value} {below : List Frame} {meth : Method} {c : Code} {D : va_G} {A : Nat → Prop} {dT : Nat → ClassId} {a : Nat → Nat} {a_d : Nat → Nat} {a_d_p : Nat → Nat} {a_d_k : Nat → Nat} {a_k : Nat → Nat} {m5 B5 : Nat} {r5 : Nat → Nat → Nat} {res : Nat × CS × Ob × Ob × Ob × FS} {l1 : Int32} {z4 : Ob} (C : Cx p s m args meth c cX1_behind 4 RX1 (some (.object "NewHouses$Village")) D A dT) : ∀ (n : Nat) (l2 : Int32) (z0 : CS) (z1 : Ob) (z2 : Ob) (z3 : Ob) (z5 : FS) (rr5 : Nat → Nat → Nat), m5 ≤ z5.1 → z5.1 - m5 ≤ B5 - m5 → (∀ k, k < m5 → rr5 k = r5 k) → f_X1_behind_L5 B5 l1 z4 n l2 z0 z1 z2 z3 z5 = some res → WA p l e ({ frames := 6, cells := 8 * ((B5 - m5)), slots := 96 * ((B5 - m5)), locals := 130 } : Room) s m args below meth c (MQ below (va_Qr (fun u : (Nat → Nat → Nat) => (∀ k, k < m5 → u k = r5 k)) (fun u a9 t => a9 = (fun u : (Nat → Nat → Nat) => u res.1 0) u ∧ WB D dT A ((fun u : (Nat → Nat → Nat) => [wC dT a (a_d 0) (u 0 0) (a_k 0) (pim u res.2.2.2.2.2.2.1) res.2.1, wD dT a_d (a_d_p 0) (a_d_k 0) res.2.2.1, wR dT a_d_p res.2.2.2.1, wR dT a_d_k res.2.2.2.2.1, wK dT a_k z4, wRw dT res.2.2.2.2.2.1 u res.2.2.2.2.2.2.2]) u) t) A) args s (8 * ((B5 - m5))) (96 * ((B5 - m5))) A) D A (8 * ((z5.1 - m5))) (96 * ((z5.1 - m5))) 4 5 ([wC dT a (a_d 0) (rr5 0 0) (a_k 0) (pim rr5 z5.2.1) z0, wD dT a_d (a_d_p 0) (a_d_k 0) z1, wR dT a_d_p z2, wR dT a_d_k z3, wK dT a_k z4, wRw dT z5.1 rr5 z5.2.2]) [(0, .ref (a 0)), (1, .int l1), (2, .int l2)] [] := by
  intro n
  induction n with
  | zero => intro l2 z0 z1 z2 z3 z5 rr5 hm5 hb5 hg5 hf; cases hf
  | succ n ih =>
    intro l2 z0 z1 z2 z3 z5 rr5 hm5 hb5 hg5 hf
    unfold f_X1_behind_L5 at hf
    refine wa_iload_n C 2 6 dX1_behind_5 rfl rfl ?_
    refine wa_iload_n C 1 7 dX1_behind_6 rfl rfl ?_
    refine wa_icmp_ge C 64 10 dX1_behind_7 rfl rfl (fun c2 => ?_) (fun c2 => ?_)
    · replace hf := ite_t hf c2
      refine wa_lv (lv' := [(0, .ref (a 0)), (1, .int l1)]) [0, 1] rfl ?_
      exact w_X1_behind_J64 C l1 z0 z1 z2 z3 z5 rr5 hm5 hb5 hg5 hf
    · replace hf := ite_f hf c2
      refine wa_iload_n C 2 11 dX1_behind_10 rfl rfl ?_
      refine wa_sipush (v := 200) C 14 dX1_behind_11 rfl rfl ?_
      refine wa_icmp_ge C 64 17 dX1_behind_14 rfl rfl (fun c6 => ?_) (fun c6 => ?_)
      · replace hf := ite_t hf c6
        refine wa_lv (lv' := [(0, .ref (a 0)), (1, .int l1)]) [0, 1] rfl ?_
        exact w_X1_behind_J64 C l1 z0 z1 z2 z3 z5 rr5 hm5 hb5 hg5 hf
      · replace hf := ite_f hf c6
        refine wa_aload_n C 0 18 dX1_behind_17 rfl rfl ?_
        refine wa_iload_n C 2 19 dX1_behind_18 rfl rfl ?_
        refine wa_iconst (v := 1) C 20 dX1_behind_19 rfl rfl ?_
        refine wa_iadd C 21 dX1_behind_20 rfl ?_
        obtain ⟨q7, hq7, hf⟩ := bind_ex hf
        obtain ⟨g8, hf⟩ := grd_ex hf
        replace g8 := of_decide_eq_true g8
        refine wa_callMr (b1 := 0) (q1 := 0) (ci := 1) (As := [.int (l2 + (1 : Int32))]) C (fun ru9 => [wC dT a (a_d 0) (rr5 0 0) (a_k 0) (pim ru9 q7.2.2.1) z0, wD dT a_d (a_d_p 0) (a_d_k 0) z1, wR dT a_d_p z2, wR dT a_d_k z3, wK dT a_k z4, wRw dT q7.2.1 ru9 q7.2.2.2]) 24 dX1_behind_21 rfl kv_X1_45 (c_X1_row hq7) ⟨rfl, rfl⟩ ⟨Nat.le_of_ble_eq_true rfl, Nat.le_of_ble_eq_true rfl⟩ rfl rfl rfl [0, 5] [1, 2, 3, 4] [4, 0, 1, 2, 3, 5] rfl rfl rfl rfl (by decide) rfl (fun _ => rfl) rfl rfl ⟨by show (8 * ((z5.1 - m5))) + 8 * (q7.2.1 - z5.1) ≤ 8 * ((B5 - m5)); omega, by show (96 * ((z5.1 - m5))) + 96 * (q7.2.1 - z5.1) ≤ 96 * ((B5 - m5)); omega⟩ (Nat.le_of_ble_eq_true rfl) (fun ru9 hu => ?_)
        refine wa_ws (ws' := [wC dT a (a_d 0) (ru9 0 0) (a_k 0) (pim ru9 q7.2.2.1) z0, wD dT a_d (a_d_p 0) (a_d_k 0) z1, wR dT a_d_p z2, wR dT a_d_k z3, wK dT a_k z4, wRw dT q7.2.1 ru9 q7.2.2.2]) (by rw [hu 0 (by omega)]) ?_
        refine wa_widen (k := (8 * ((q7.2.1 - m5)))) (n := (96 * ((q7.2.1 - m5)))) (by omega) (by omega) ?_
        replace hg5 : ∀ k, k < m5 → ru9 k = r5 k := fun k hk => (hu k (by omega)).trans (hg5 k hk)
        replace hm5 : m5 ≤ q7.2.1 := by omega
        replace hb5 : q7.2.1 - m5 ≤ B5 - m5 := by omega
        refine wa_astore_n (lv' := [(0, .ref (a 0)), (1, .int l1), (2, .int l2), (3, .ref (ru9 q7.1 0))]) C [1, 2, 3, 0] 25 dX1_behind_24 rfl (Nat.le_of_ble_eq_true rfl) rfl ?_
        refine wa_aload_n C 3 26 dX1_behind_25 rfl rfl ?_
        refine wa_aload_n C 0 27 dX1_behind_26 rfl rfl ?_
        refine wa_iload_n C 2 28 dX1_behind_27 rfl rfl ?_
        obtain ⟨q10, hq10, hf⟩ := bind_ex hf
        obtain ⟨g11, hf⟩ := grd_ex hf
        replace g11 := of_decide_eq_true g11
        refine wa_callMr (b1 := 0) (q1 := 0) (ci := 1) (As := [.int l2]) C (fun ru12 => [wC dT a (a_d 0) (ru9 0 0) (a_k 0) (pim ru12 q10.2.2.1) z0, wD dT a_d (a_d_p 0) (a_d_k 0) z1, wR dT a_d_p z2, wR dT a_d_k z3, wK dT a_k z4, wRw dT q10.2.1 ru12 q10.2.2.2]) 31 dX1_behind_28 rfl kv_X1_45 (c_X1_row hq10) ⟨rfl, rfl⟩ ⟨Nat.le_of_ble_eq_true rfl, Nat.le_of_ble_eq_true rfl⟩ rfl rfl rfl [0, 5] [1, 2, 3, 4] [4, 0, 1, 2, 3, 5] rfl rfl rfl rfl (by decide) rfl (fun _ => rfl) rfl rfl ⟨by show (8 * ((q7.2.1 - m5))) + 8 * (q10.2.1 - q7.2.1) ≤ 8 * ((B5 - m5)); omega, by show (96 * ((q7.2.1 - m5))) + 96 * (q10.2.1 - q7.2.1) ≤ 96 * ((B5 - m5)); omega⟩ (Nat.le_of_ble_eq_true rfl) (fun ru12 hu => ?_)
        refine wa_ws (ws' := [wC dT a (a_d 0) (ru12 0 0) (a_k 0) (pim ru12 q10.2.2.1) z0, wD dT a_d (a_d_p 0) (a_d_k 0) z1, wR dT a_d_p z2, wR dT a_d_k z3, wK dT a_k z4, wRw dT q10.2.1 ru12 q10.2.2.2]) (by rw [hu 0 (by omega)]) ?_
        refine wa_widen (k := (8 * ((q10.2.1 - m5)))) (n := (96 * ((q10.2.1 - m5)))) (by omega) (by omega) ?_
        refine wa_cast (lv' := [(0, .ref (a 0)), (1, .int l1), (2, .int l2), (3, .ref (ru12 q7.1 0))]) (st' := [.ref (ru12 q10.1 0), .ref (ru12 q7.1 0)]) (by rw [hu q7.1 (by omega)]) (by first | rfl | rw [hu q7.1 (by omega)]) ?_
        replace hg5 : ∀ k, k < m5 → ru12 k = r5 k := fun k hk => (hu k (by omega)).trans (hg5 k hk)
        replace hm5 : m5 ≤ q10.2.1 := by omega
        replace hb5 : q10.2.1 - m5 ≤ B5 - m5 := by omega
        obtain ⟨g13, hf⟩ := grd_ex hf
        replace g13 := of_decide_eq_true g13
        refine wa_openF 5 q7.1 g13 List.not_mem_nil rfl ?_
        obtain ⟨g14, hf⟩ := grd_ex hf
        replace g14 := of_decide_eq_true g14
        refine wa_openF 5 q10.1 g14.1 (by simp [g14.2]) rfl ?_
        obtain ⟨q15, hq15, hf⟩ := bind_ex hf
        obtain ⟨y17, ey17, hf⟩ := bnd_ex hf
        refine wa_callVv (b1 := 6) (q1 := 0) (ci := 10) (ws' := [wC dT a (a_d 0) (ru12 0 0) (a_k 0) (pim ru12 q10.2.2.1) z0, wD dT a_d (a_d_p 0) (a_d_k 0) z1, wR dT a_d_p z2, wR dT a_d_k z3, wK dT a_k z4, wRm dT q10.2.1 [q10.1, q7.1] ru12 q10.2.2.2, wV dT (ru12 q7.1) q15, wV dT (ru12 q10.1) (q10.2.2.2 q10.1)]) (As := [.ref (ru12 q10.1 0)]) C 34 dX1_behind_31 rfl kv_X1_49 (c_X10_copyFrom hq15) ⟨rfl, rfl⟩ ⟨Nat.le_of_ble_eq_true rfl, Nat.le_of_ble_eq_true rfl⟩ rfl rfl rfl [6, 7] [0, 1, 2, 3, 4, 5] [0, 1, 2, 3, 4, 5, 6, 7] rfl rfl rfl rfl (by decide) rfl rfl rfl rfl ⟨by show (8 * ((q10.2.1 - m5))) ≤ 8 * ((B5 - m5)); omega, by show (96 * ((q10.2.1 - m5))) ≤ 96 * ((B5 - m5)); omega⟩ (Nat.le_of_ble_eq_true rfl) ?_
        refine wa_closeR (ws := [wC dT a (a_d 0) (ru12 0 0) (a_k 0) (pim ru12 q10.2.2.1) z0, wD dT a_d (a_d_p 0) (a_d_k 0) z1, wR dT a_d_p z2, wR dT a_d_k z3, wK dT a_k z4, wRm dT q10.2.1 [q10.1, q7.1] ru12 q10.2.2.2, wV dT (ru12 q7.1) q15]) (ws' := [wC dT a (a_d 0) (ru12 0 0) (a_k 0) (pim ru12 q10.2.2.1) z0, wD dT a_d (a_d_p 0) (a_d_k 0) z1, wR dT a_d_p z2, wR dT a_d_k z3, wK dT a_k z4, wRm dT q10.2.1 [q7.1] ru12 q10.2.2.2, wV dT (ru12 q7.1) q15]) 5 q10.1 g14.1 (by simp [g14.2]) rfl rfl ?_
        refine wa_closeF (ws := [wC dT a (a_d 0) (ru12 0 0) (a_k 0) (pim ru12 q10.2.2.1) z0, wD dT a_d (a_d_p 0) (a_d_k 0) z1, wR dT a_d_p z2, wR dT a_d_k z3, wK dT a_k z4, wRm dT q10.2.1 [q7.1] ru12 q10.2.2.2]) (ws' := [wC dT a (a_d 0) (ru12 0 0) (a_k 0) (pim ru12 q10.2.2.1) z0, wD dT a_d (a_d_p 0) (a_d_k 0) z1, wR dT a_d_p z2, wR dT a_d_k z3, wK dT a_k z4, wRm dT q10.2.1 [] ru12 (sV q10.2.2.2 q7.1 q15)]) 5 q7.1 g13 List.not_mem_nil rfl rfl rfl ?_
        refine wa_ws (ws' := [wC dT a (a_d 0) (ru12 0 0) (a_k 0) (pim ru12 y17.2.1) z0, wD dT a_d (a_d_p 0) (a_d_k 0) z1, wR dT a_d_p z2, wR dT a_d_k z3, wK dT a_k z4, wRw dT y17.1 ru12 y17.2.2]) (by rw [ey17]) ?_
        have hc9 : y17.1 = q10.2.1 := (by first | omega | rw [ey17])
        replace hm5 : m5 ≤ y17.1 := by omega
        replace hb5 : y17.1 - m5 ≤ B5 - m5 := by omega
        refine wa_widen (k := (8 * ((y17.1 - m5)))) (n := (96 * ((y17.1 - m5)))) (by omega) (by omega) ?_
        refine wa_aload_n C 0 35 dX1_behind_34 rfl rfl ?_
        refine wa_get C 38 0 0 3 dX1_behind_35 rfl iX1 q253 rfl (Nat.le_of_ble_eq_true rfl) rfl rfl rfl ?_
        refine wa_iload_n C 2 39 dX1_behind_38 rfl rfl ?_
        refine wa_iconst (v := 1) C 40 dX1_behind_39 rfl rfl ?_
        refine wa_iadd C 41 dX1_behind_40 rfl ?_
        refine wa_aload_n C 0 42 dX1_behind_41 rfl rfl ?_
        refine wa_get C 45 0 0 0 dX1_behind_42 rfl iX1 q250 rfl (Nat.le_of_ble_eq_true rfl) rfl rfl rfl ?_
        refine wa_aload_n C 3 46 dX1_behind_45 rfl rfl ?_
        refine wa_iconst (v := 0) C 47 dX1_behind_46 rfl rfl ?_
        obtain ⟨g18, hf⟩ := grd_ex hf
        replace g18 := of_decide_eq_true g18
        refine wa_openF 5 q7.1 g18 List.not_mem_nil rfl ?_
        obtain ⟨q19, hq19, hf⟩ := bind_ex hf
        obtain ⟨y21, ey21, hf⟩ := bnd_ex hf
        refine wa_callVi (b1 := 1) (q1 := 0) (ci := 2) (ws' := [wC dT a (a_d 0) (ru12 0 0) (a_k 0) (pim ru12 y17.2.1) z0, wD dT a_d (a_d_p 0) (a_d_k 0) q19.2.1, wR dT a_d_p q19.2.2.1, wR dT a_d_k q19.2.2.2.1, wK dT a_k z4, wRm dT y17.1 [q7.1] ru12 y17.2.2, wV dT (ru12 q7.1) q19.2.2.2.2]) (As := [.ref (ru12 q7.1 0), .int (0 : Int32)]) C 50 dX1_behind_47 rfl kv_X1_53 (c_X2_pass hq19) ⟨rfl, rfl⟩ ⟨Nat.le_of_ble_eq_true rfl, Nat.le_of_ble_eq_true rfl⟩ rfl rfl rfl [1, 2, 3, 6] [0, 4, 5] [0, 3, 4, 5, 1, 2, 6] rfl rfl rfl rfl (by decide) rfl rfl rfl rfl ⟨by show (8 * ((y17.1 - m5))) ≤ 8 * ((B5 - m5)); omega, by show (96 * ((y17.1 - m5))) ≤ 96 * ((B5 - m5)); omega⟩ (Nat.le_of_ble_eq_true rfl) ?_
        refine wa_closeF (ws := [wC dT a (a_d 0) (ru12 0 0) (a_k 0) (pim ru12 y17.2.1) z0, wD dT a_d (a_d_p 0) (a_d_k 0) q19.2.1, wR dT a_d_p q19.2.2.1, wR dT a_d_k q19.2.2.2.1, wK dT a_k z4, wRm dT y17.1 [q7.1] ru12 y17.2.2]) (ws' := [wC dT a (a_d 0) (ru12 0 0) (a_k 0) (pim ru12 y17.2.1) z0, wD dT a_d (a_d_p 0) (a_d_k 0) q19.2.1, wR dT a_d_p q19.2.2.1, wR dT a_d_k q19.2.2.2.1, wK dT a_k z4, wRm dT y17.1 [] ru12 (sV y17.2.2 q7.1 q19.2.2.2.2)]) 5 q7.1 g18 List.not_mem_nil rfl rfl rfl ?_
        refine wa_ws (ws' := [wC dT a (a_d 0) (ru12 0 0) (a_k 0) (pim ru12 y21.2.1) z0, wD dT a_d (a_d_p 0) (a_d_k 0) q19.2.1, wR dT a_d_p q19.2.2.1, wR dT a_d_k q19.2.2.2.1, wK dT a_k z4, wRw dT y21.1 ru12 y21.2.2]) (by rw [ey21]) ?_
        have hc9 : y21.1 = y17.1 := (by first | omega | rw [ey21])
        replace hm5 : m5 ≤ y21.1 := by omega
        replace hb5 : y21.1 - m5 ≤ B5 - m5 := by omega
        refine wa_widen (k := (8 * ((y21.1 - m5)))) (n := (96 * ((y21.1 - m5)))) (by omega) (by omega) ?_
        obtain ⟨g22, hf⟩ := grd_ex hf
        obtain ⟨y23, ey23, hf⟩ := bnd_ex hf
        refine wa_iast (ws' := [wC dT a (a_d 0) (ru12 0 0) (a_k 0) (pim ru12 y21.2.1) y23, wD dT a_d (a_d_p 0) (a_d_k 0) q19.2.1, wR dT a_d_p q19.2.2.1, wR dT a_d_k q19.2.2.2.1, wK dT a_k z4, wRw dT y21.1 ru12 y21.2.2]) C 51 0 2 dX1_behind_50 rfl rfl rfl (vi_in g22) (by rw [ey23]; rfl) ?_
        refine wa_aload_n C 0 52 dX1_behind_51 rfl rfl ?_
        refine wa_iload_n C 2 53 dX1_behind_52 rfl rfl ?_
        refine wa_iconst (v := 1) C 54 dX1_behind_53 rfl rfl ?_
        refine wa_iadd C 55 dX1_behind_54 rfl ?_
        obtain ⟨y24, ey24, hf⟩ := bnd_ex hf
        refine wa_put (ws' := [wC dT a (a_d 0) (ru12 0 0) (a_k 0) (pim ru12 y21.2.1) y24, wD dT a_d (a_d_p 0) (a_d_k 0) q19.2.1, wR dT a_d_p q19.2.2.1, wR dT a_d_k q19.2.2.2.1, wK dT a_k z4, wRw dT y21.1 ru12 y21.2.2]) C 58 0 0 6 tyX1 dX1_behind_55 rfl iX1 tyX1_ok nmX1 q256 rfl (Nat.le_of_ble_eq_true rfl) rfl rfl rfl rfl rfl (Nat.le_of_ble_eq_true rfl) (by rw [ey24]; rfl) ?_
        obtain ⟨x25, ex25, hf⟩ := bnd_ex hf
        refine wa_iinc (v := x25) (lv' := [(0, .ref (a 0)), (1, .int l1), (2, .int x25), (3, .ref (ru12 q7.1 0))]) C 2 [1, 2, 0, 3] 61 dX1_behind_58 rfl rfl (by rw [ex25]; rfl) (Nat.le_of_ble_eq_true rfl) rfl ?_
        refine wa_goto C 5 dX1_behind_61 rfl ?_
        refine wa_lv (lv' := [(0, .ref (a 0)), (1, .int l1), (2, .int x25)]) [0, 1, 2] rfl ?_
        exact ih x25 y24 q19.2.1 q19.2.2.1 q19.2.2.2.1 y21 ru12 hm5 hb5 hg5 hf
set_option maxRecDepth 20000 in
theorem c_X1_behind {l : Launch} {D : va_G} {dT : Nat → ClassId} {a : Nat → Nat} {a_d : Nat → Nat} {a_d_p : Nat → Nat} {a_d_k : Nat → Nat} {a_k : Nat → Nat} {a_r : Nat → Nat → Nat} {v : CS} {v_d : Ob} {v_d_p : Ob} {v_d_k : Ob} {v_k : Ob} {v_r : FS} {B5 : Nat} {p0 : Int32} {res : Nat × CS × Ob × Ob × Ob × FS} (hf : f_X1_behind v v_d v_d_p v_d_k v_k v_r B5 p0 = some res) : CMr l yX1_behind cX1_behind 4 (some (.object "NewHouses$Village")) ({ frames := 6, cells := 8 * ((B5 - v_r.1)), slots := 96 * ((B5 - v_r.1)), locals := 130 } : Room) D dT [.ref (a 0), .int p0] ([wC dT a (a_d 0) (a_r 0 0) (a_k 0) (pim a_r v_r.2.1) v, wD dT a_d (a_d_p 0) (a_d_k 0) v_d, wR dT a_d_p v_d_p, wR dT a_d_k v_d_k, wK dT a_k v_k, wRw dT v_r.1 a_r v_r.2.2]) (fun u : (Nat → Nat → Nat) => (∀ k, k < v_r.1 → u k = a_r k)) (fun u : (Nat → Nat → Nat) => [wC dT a (a_d 0) (u 0 0) (a_k 0) (pim u res.2.2.2.2.2.2.1) res.2.1, wD dT a_d (a_d_p 0) (a_d_k 0) res.2.2.1, wR dT a_d_p res.2.2.2.1, wR dT a_d_k res.2.2.2.2.1, wK dT a_k v_k, wRw dT res.2.2.2.2.2.1 u res.2.2.2.2.2.2.2]) (fun u : (Nat → Nat → Nat) => u res.1 0) (8 * ((B5 - v_r.1))) (96 * ((B5 - v_r.1))) := by
  refine CMr.of (by decide) (Nat.le_of_ble_eq_true rfl) rfl ?_
  intro p e s m args below meth c A C
  unfold f_X1_behind at hf
  have hm5 : v_r.1 ≤ v_r.1 := Nat.le_refl _
  have hb5 : v_r.1 - v_r.1 ≤ B5 - v_r.1 := by omega
  have hg5 : ∀ k, k < v_r.1 → a_r k = a_r k := fun _ _ => rfl
  refine wa_widen (k := (8 * ((v_r.1 - v_r.1)))) (n := (96 * ((v_r.1 - v_r.1)))) (Nat.zero_le _) (Nat.zero_le _) ?_
  refine wa_aload_n C 0 1 dX1_behind_0 rfl rfl ?_
  refine wa_get C 4 0 0 6 dX1_behind_1 rfl iX1 q256 rfl (Nat.le_of_ble_eq_true rfl) rfl rfl rfl ?_
  obtain ⟨x1, ex1, hf⟩ := bnd_ex hf
  refine wa_topi ex1 ?_
  refine wa_istore_n (lv' := [(0, .ref (a 0)), (1, .int p0), (2, .int x1)]) C [1, 2, 0] 5 dX1_behind_4 rfl (Nat.le_of_ble_eq_true rfl) rfl ?_
  exact w_X1_behind_L5 C FUEL x1 v v_d v_d_p v_d_k v_r a_r hm5 hb5 hg5 hf
theorem kv_X1_59 : KV RX1 59 yX1_behind cX1_behind 4 (some (.object "NewHouses$Village")) 1 := KV.mk q534 q450 q451 q7 q452 ⟨by decide, by decide, by decide +kernel⟩
theorem kv_X1_62 : KV RX1 62 yX10_inOne cX10_inOne 3 (some .boolean) 2 := KV.mk q1151 q972 q973 q3 q974 ⟨by decide, by decide, by decide +kernel⟩
def f_X1_firstWith_L3 (B5 : Nat) (l1 : Int32) (l2 : Int32) (l3 : Int32) (z4 : Ob) : Nat → Int32 → CS → Ob → Ob → Ob → FS → Option (Int32 × CS × Ob × Ob × Ob × FS)
  | 0, _, _, _, _, _, _ => none
  | n + 1, l4, z0, z1, z2, z3, z5 => (if (100 : Int32) < l4 then some ((-1 : Int32), z0, z1, z2, z3, z5) else (f_X1_behind z0 z1 z2 z3 z4 z5 (max z5.1 ((l4).toNatClampNeg + 1)) l4).bind (fun q2 => grd (decide (z5.1 ≤ q2.2.2.2.2.2.1 ∧ q2.2.2.2.2.2.1 = (max z5.1 ((l4).toNatClampNeg + 1)) ∧ (max z5.1 ((l4).toNatClampNeg + 1)) ≤ B5)) (grd (decide (q2.1 < q2.2.2.2.2.2.1)) ((f_X10_inOne (q2.2.2.2.2.2.2.2 q2.1) l1 l2).bind (fun q6 => (if q6 = l3 then some (l4, q2.2.1, q2.2.2.1, q2.2.2.2.1, q2.2.2.2.2.1, q2.2.2.2.2.2) else bnd (l4 + 1) (fun x9 => f_X1_firstWith_L3 B5 l1 l2 l3 z4 n x9 q2.2.1 q2.2.2.1 q2.2.2.2.1 q2.2.2.2.2.1 q2.2.2.2.2.2)))))))
def f_X1_firstWith (v : CS) (v_d : Ob) (v_d_p : Ob) (v_d_k : Ob) (v_k : Ob) (v_r : FS) (B5 : Nat) (p0 : Int32) (p1 : Int32) (p2 : Int32) : Option (Int32 × CS × Ob × Ob × Ob × FS) := f_X1_firstWith_L3 B5 p0 p1 p2 v_k FUEL (0 : Int32) v v_d v_d_p v_d_k v_r
set_option maxRecDepth 20000 in
theorem w_X1_firstWith_L3 {p : Program} {l : Launch} {e : Env} {s : State} {m : MethodId} {args : Array Value} {below : List Frame} {meth : Method} {c : Code} {D : va_G} {A : Nat → Prop} {dT : Nat → ClassId} {a : Nat → Nat} {a_d : Nat → Nat} {a_d_p : Nat → Nat} {a_d_k : Nat → Nat} {a_k : Nat → Nat} {m5 B5 : Nat} {r5 : Nat → Nat → Nat} {res : Int32 × CS × Ob × Ob × Ob × FS} {l1 : Int32} {l2 : Int32} {l3 : Int32} {z4 : Ob} (C : Cx p s m args meth c cX1_firstWith 5 RX1 (some .int) D A dT) : ∀ (n : Nat) (l4 : Int32) (z0 : CS) (z1 : Ob) (z2 : Ob) (z3 : Ob) (z5 : FS) (rr5 : Nat → Nat → Nat), m5 ≤ z5.1 → z5.1 - m5 ≤ B5 - m5 → (∀ k, k < m5 → rr5 k = r5 k) → f_X1_firstWith_L3 B5 l1 l2 l3 z4 n l4 z0 z1 z2 z3 z5 = some res → WA p l e ({ frames := 7, cells := 8 * ((B5 - m5)), slots := 96 * ((B5 - m5)), locals := 153 } : Room) s m args below meth c (MQ below (va_Qi (fun r9 u => r9 = res.1 ∧ (fun u : (Nat → Nat → Nat) => (∀ k, k < m5 → u k = r5 k)) u) (fun u t => WB D dT A ((fun u : (Nat → Nat → Nat) => [wC dT a (a_d 0) (u 0 0) (a_k 0) (pim u res.2.2.2.2.2.2.1) res.2.1, wD dT a_d (a_d_p 0) (a_d_k 0) res.2.2.1, wR dT a_d_p res.2.2.2.1, wR dT a_d_k res.2.2.2.2.1, wK dT a_k z4, wRw dT res.2.2.2.2.2.1 u res.2.2.2.2.2.2.2]) u) t) A) args s (8 * ((B5 - m5))) (96 * ((B5 - m5))) A) D A (8 * ((z5.1 - m5))) (96 * ((z5.1 - m5))) 5 3 ([wC dT a (a_d 0) (rr5 0 0) (a_k 0) (pim rr5 z5.2.1) z0, wD dT a_d (a_d_p 0) (a_d_k 0) z1, wR dT a_d_p z2, wR dT a_d_k z3, wK dT a_k z4, wRw dT z5.1 rr5 z5.2.2]) [(0, .ref (a 0)), (1, .int l1), (2, .int l2), (3, .int l3), (4, .int l4)] [] := by
  intro n
  induction n with
  | zero => intro l4 z0 z1 z2 z3 z5 rr5 hm5 hb5 hg5 hf; cases hf
  | succ n ih =>
    intro l4 z0 z1 z2 z3 z5 rr5 hm5 hb5 hg5 hf
    unfold f_X1_firstWith_L3 at hf
    refine wa_iload C 4 5 dX1_firstWith_3 rfl rfl ?_
    refine wa_bipush (v := 100) C 7 dX1_firstWith_5 rfl rfl ?_
    refine wa_icmp_gt C 34 10 dX1_firstWith_7 rfl rfl (fun c1 => ?_) (fun c1 => ?_)
    · replace hf := ite_t hf c1
      refine wa_iconst (v := (-1)) C 35 dX1_firstWith_34 rfl rfl ?_
      cases hf
      exact wa_irm C (rr5) dX1_firstWith_35 hg5 rfl rfl (by show (8 * ((z5.1 - m5))) ≤ 8 * ((B5 - m5)); omega) (by show (96 * ((z5.1 - m5))) ≤ 96 * ((B5 - m5)); omega)
    · replace hf := ite_f hf c1
      refine wa_aload_n C 0 11 dX1_firstWith_10 rfl rfl ?_
      refine wa_iload C 4 13 dX1_firstWith_11 rfl rfl ?_
      obtain ⟨q2, hq2, hf⟩ := bind_ex hf
      obtain ⟨g3, hf⟩ := grd_ex hf
      replace g3 := of_decide_eq_true g3
      refine wa_callMr (b1 := 0) (q1 := 0) (ci := 1) (As := [.int l4]) C (fun (ru4 : (Nat → Nat → Nat)) => [wC dT a (a_d 0) (ru4 0 0) (a_k 0) (pim ru4 q2.2.2.2.2.2.2.1) q2.2.1, wD dT a_d (a_d_p 0) (a_d_k 0) q2.2.2.1, wR dT a_d_p q2.2.2.2.1, wR dT a_d_k q2.2.2.2.2.1, wK dT a_k z4, wRw dT q2.2.2.2.2.2.1 ru4 q2.2.2.2.2.2.2.2]) 16 dX1_firstWith_13 rfl kv_X1_59 (c_X1_behind hq2) ⟨rfl, rfl⟩ ⟨Nat.le_of_ble_eq_true rfl, Nat.le_of_ble_eq_true rfl⟩ rfl rfl rfl [0, 1, 2, 3, 4, 5] [] [0, 1, 2, 3, 4, 5] rfl rfl rfl rfl (by decide) rfl (fun _ => rfl) rfl rfl ⟨by show (8 * ((z5.1 - m5))) + 8 * (((max z5.1 ((l4).toNatClampNeg + 1)) - z5.1)) ≤ 8 * ((B5 - m5)); omega, by show (96 * ((z5.1 - m5))) + 96 * (((max z5.1 ((l4).toNatClampNeg + 1)) - z5.1)) ≤ 96 * ((B5 - m5)); omega⟩ (Nat.le_of_ble_eq_true rfl) (fun ru4 hu => ?_)
      refine wa_widen (k := (8 * ((q2.2.2.2.2.2.1 - m5)))) (n := (96 * ((q2.2.2.2.2.2.1 - m5)))) (by omega) (by omega) ?_
      replace hg5 : ∀ k, k < m5 → ru4 k = r5 k := fun k hk => (hu k (by omega)).trans (hg5 k hk)
      replace hm5 : m5 ≤ q2.2.2.2.2.2.1 := by omega
      replace hb5 : q2.2.2.2.2.2.1 - m5 ≤ B5 - m5 := by omega
      refine wa_iload_n C 1 17 dX1_firstWith_16 rfl rfl ?_
      refine wa_iload_n C 2 18 dX1_firstWith_17 rfl rfl ?_
      obtain ⟨g5, hf⟩ := grd_ex hf
      replace g5 := of_decide_eq_true g5
      refine wa_openF 5 q2.1 g5 List.not_mem_nil rfl ?_
      obtain ⟨q6, hq6, hf⟩ := bind_ex hf
      refine wa_callVi (b1 := 6) (q1 := 0) (ci := 10) (ws' := [wC dT a (a_d 0) (ru4 0 0) (a_k 0) (pim ru4 q2.2.2.2.2.2.2.1) q2.2.1, wD dT a_d (a_d_p 0) (a_d_k 0) q2.2.2.1, wR dT a_d_p q2.2.2.2.1, wR dT a_d_k q2.2.2.2.2.1, wK dT a_k z4, wRm dT q2.2.2.2.2.2.1 [q2.1] ru4 q2.2.2.2.2.2.2.2, wV dT (ru4 q2.1) (q2.2.2.2.2.2.2.2 q2.1)]) (As := [.int l1, .int l2]) C 21 dX1_firstWith_18 rfl kv_X1_62 (c_X10_inOne hq6) ⟨rfl, rfl⟩ ⟨Nat.le_of_ble_eq_true rfl, Nat.le_of_ble_eq_true rfl⟩ rfl rfl rfl [6] [0, 1, 2, 3, 4, 5] [0, 1, 2, 3, 4, 5, 6] rfl rfl rfl rfl (by decide) rfl rfl rfl rfl ⟨by show (8 * ((q2.2.2.2.2.2.1 - m5))) ≤ 8 * ((B5 - m5)); omega, by show (96 * ((q2.2.2.2.2.2.1 - m5))) ≤ 96 * ((B5 - m5)); omega⟩ (Nat.le_of_ble_eq_true rfl) ?_
      refine wa_closeR (ws := [wC dT a (a_d 0) (ru4 0 0) (a_k 0) (pim ru4 q2.2.2.2.2.2.2.1) q2.2.1, wD dT a_d (a_d_p 0) (a_d_k 0) q2.2.2.1, wR dT a_d_p q2.2.2.2.1, wR dT a_d_k q2.2.2.2.2.1, wK dT a_k z4, wRm dT q2.2.2.2.2.2.1 [q2.1] ru4 q2.2.2.2.2.2.2.2]) (ws' := [wC dT a (a_d 0) (ru4 0 0) (a_k 0) (pim ru4 q2.2.2.2.2.2.2.1) q2.2.1, wD dT a_d (a_d_p 0) (a_d_k 0) q2.2.2.1, wR dT a_d_p q2.2.2.2.1, wR dT a_d_k q2.2.2.2.2.1, wK dT a_k z4, wRm dT q2.2.2.2.2.2.1 [] ru4 q2.2.2.2.2.2.2.2]) 5 q2.1 g5 List.not_mem_nil rfl rfl ?_
      refine wa_ws (ws' := [wC dT a (a_d 0) (ru4 0 0) (a_k 0) (pim ru4 q2.2.2.2.2.2.2.1) q2.2.1, wD dT a_d (a_d_p 0) (a_d_k 0) q2.2.2.1, wR dT a_d_p q2.2.2.2.1, wR dT a_d_k q2.2.2.2.2.1, wK dT a_k z4, wRw dT q2.2.2.2.2.2.1 ru4 q2.2.2.2.2.2.2.2]) rfl ?_
      refine wa_iload_n C 3 22 dX1_firstWith_21 rfl rfl ?_
      refine wa_icmp_ne C 28 25 dX1_firstWith_22 rfl rfl (fun c8 => ?_) (fun c8 => ?_)
      · replace hf := ite_f hf c8
        obtain ⟨x9, ex9, hf⟩ := bnd_ex hf
        refine wa_iinc (v := x9) (lv' := [(0, .ref (a 0)), (1, .int l1), (2, .int l2), (3, .int l3), (4, .int x9)]) C 4 [1, 2, 3, 4, 0] 31 dX1_firstWith_28 rfl rfl (by rw [ex9]; rfl) (Nat.le_of_ble_eq_true rfl) rfl ?_
        refine wa_goto C 3 dX1_firstWith_31 rfl ?_
        exact ih x9 q2.2.1 q2.2.2.1 q2.2.2.2.1 q2.2.2.2.2.1 q2.2.2.2.2.2 ru4 hm5 hb5 hg5 hf
      · replace hf := ite_t hf c8
        refine wa_iload C 4 27 dX1_firstWith_25 rfl rfl ?_
        cases hf
        exact wa_irm C (ru4) dX1_firstWith_27 hg5 rfl rfl (by show (8 * ((q2.2.2.2.2.2.1 - m5))) ≤ 8 * ((B5 - m5)); omega) (by show (96 * ((q2.2.2.2.2.2.1 - m5))) ≤ 96 * ((B5 - m5)); omega)
set_option maxRecDepth 20000 in
theorem c_X1_firstWith {l : Launch} {D : va_G} {dT : Nat → ClassId} {a : Nat → Nat} {a_d : Nat → Nat} {a_d_p : Nat → Nat} {a_d_k : Nat → Nat} {a_k : Nat → Nat} {a_r : Nat → Nat → Nat} {v : CS} {v_d : Ob} {v_d_p : Ob} {v_d_k : Ob} {v_k : Ob} {v_r : FS} {B5 : Nat} {p0 : Int32} {p1 : Int32} {p2 : Int32} {res : Int32 × CS × Ob × Ob × Ob × FS} (hf : f_X1_firstWith v v_d v_d_p v_d_k v_k v_r B5 p0 p1 p2 = some res) : CMi l yX1_firstWith cX1_firstWith 5 (some .int) ({ frames := 7, cells := 8 * ((B5 - v_r.1)), slots := 96 * ((B5 - v_r.1)), locals := 153 } : Room) D dT [.ref (a 0), .int p0, .int p1, .int p2] ([wC dT a (a_d 0) (a_r 0 0) (a_k 0) (pim a_r v_r.2.1) v, wD dT a_d (a_d_p 0) (a_d_k 0) v_d, wR dT a_d_p v_d_p, wR dT a_d_k v_d_k, wK dT a_k v_k, wRw dT v_r.1 a_r v_r.2.2]) (fun u : (Nat → Nat → Nat) => (∀ k, k < v_r.1 → u k = a_r k)) (fun u : (Nat → Nat → Nat) => [wC dT a (a_d 0) (u 0 0) (a_k 0) (pim u res.2.2.2.2.2.2.1) res.2.1, wD dT a_d (a_d_p 0) (a_d_k 0) res.2.2.1, wR dT a_d_p res.2.2.2.1, wR dT a_d_k res.2.2.2.2.1, wK dT a_k v_k, wRw dT res.2.2.2.2.2.1 u res.2.2.2.2.2.2.2]) res.1 (8 * ((B5 - v_r.1))) (96 * ((B5 - v_r.1))) := by
  refine CMi.of (by decide) (Nat.le_of_ble_eq_true rfl) rfl ?_
  intro p e s m args below meth c A C
  unfold f_X1_firstWith at hf
  have hm5 : v_r.1 ≤ v_r.1 := Nat.le_refl _
  have hb5 : v_r.1 - v_r.1 ≤ B5 - v_r.1 := by omega
  have hg5 : ∀ k, k < v_r.1 → a_r k = a_r k := fun _ _ => rfl
  refine wa_widen (k := (8 * ((v_r.1 - v_r.1)))) (n := (96 * ((v_r.1 - v_r.1)))) (Nat.zero_le _) (Nat.zero_le _) ?_
  refine wa_iconst (v := 0) C 1 dX1_firstWith_0 rfl rfl ?_
  refine wa_istore (lv' := [(0, .ref (a 0)), (1, .int p0), (2, .int p1), (3, .int p2), (4, .int (0 : Int32))]) C [1, 2, 3, 4, 0] 3 dX1_firstWith_1 rfl (Nat.le_of_ble_eq_true rfl) rfl ?_
  exact w_X1_firstWith_L3 C FUEL (0 : Int32) v v_d v_d_p v_d_k v_r a_r hm5 hb5 hg5 hf
def f_X1_firstGoing_L2 (B5 : Nat) (l1 : Int32) (z4 : Ob) : Nat → Int32 → CS → Ob → Ob → Ob → FS → Option (Int32 × CS × Ob × Ob × Ob × FS)
  | 0, _, _, _, _, _, _ => none
  | n + 1, l2, z0, z1, z2, z3, z5 => (if (100 : Int32) < l2 then some ((-1 : Int32), z0, z1, z2, z3, z5) else (f_X1_behind z0 z1 z2 z3 z4 z5 (max z5.1 ((l2).toNatClampNeg + 1)) l2).bind (fun q2 => grd (decide (z5.1 ≤ q2.2.2.2.2.2.1 ∧ q2.2.2.2.2.2.1 = (max z5.1 ((l2).toNatClampNeg + 1)) ∧ (max z5.1 ((l2).toNatClampNeg + 1)) ≤ B5)) (grd (vi l2 201) ((if (((q2.2.1.2.2 2 (l2).toNatClampNeg) >>> (l1 &&& 31)) &&& (1 : Int32)) = 0 then bnd (l2 + 1) (fun x7 => f_X1_firstGoing_L2 B5 l1 z4 n x7 q2.2.1 q2.2.2.1 q2.2.2.2.1 q2.2.2.2.2.1 q2.2.2.2.2.2) else some (l2, q2.2.1, q2.2.2.1, q2.2.2.2.1, q2.2.2.2.2.1, q2.2.2.2.2.2))))))
def f_X1_firstGoing (v : CS) (v_d : Ob) (v_d_p : Ob) (v_d_k : Ob) (v_k : Ob) (v_r : FS) (B5 : Nat) (p0 : Int32) : Option (Int32 × CS × Ob × Ob × Ob × FS) := f_X1_firstGoing_L2 B5 p0 v_k FUEL (1 : Int32) v v_d v_d_p v_d_k v_r
set_option maxRecDepth 20000 in
theorem w_X1_firstGoing_L2 {p : Program} {l : Launch} {e : Env} {s : State} {m : MethodId} {args : Array Value} {below : List Frame} {meth : Method} {c : Code} {D : va_G} {A : Nat → Prop} {dT : Nat → ClassId} {a : Nat → Nat} {a_d : Nat → Nat} {a_d_p : Nat → Nat} {a_d_k : Nat → Nat} {a_k : Nat → Nat} {m5 B5 : Nat} {r5 : Nat → Nat → Nat} {res : Int32 × CS × Ob × Ob × Ob × FS} {l1 : Int32} {z4 : Ob} (C : Cx p s m args meth c cX1_firstGoing 3 RX1 (some .int) D A dT) : ∀ (n : Nat) (l2 : Int32) (z0 : CS) (z1 : Ob) (z2 : Ob) (z3 : Ob) (z5 : FS) (rr5 : Nat → Nat → Nat), m5 ≤ z5.1 → z5.1 - m5 ≤ B5 - m5 → (∀ k, k < m5 → rr5 k = r5 k) → f_X1_firstGoing_L2 B5 l1 z4 n l2 z0 z1 z2 z3 z5 = some res → WA p l e ({ frames := 7, cells := 8 * ((B5 - m5)), slots := 96 * ((B5 - m5)), locals := 153 } : Room) s m args below meth c (MQ below (va_Qi (fun r9 u => r9 = res.1 ∧ (fun u : (Nat → Nat → Nat) => (∀ k, k < m5 → u k = r5 k)) u) (fun u t => WB D dT A ((fun u : (Nat → Nat → Nat) => [wC dT a (a_d 0) (u 0 0) (a_k 0) (pim u res.2.2.2.2.2.2.1) res.2.1, wD dT a_d (a_d_p 0) (a_d_k 0) res.2.2.1, wR dT a_d_p res.2.2.2.1, wR dT a_d_k res.2.2.2.2.1, wK dT a_k z4, wRw dT res.2.2.2.2.2.1 u res.2.2.2.2.2.2.2]) u) t) A) args s (8 * ((B5 - m5))) (96 * ((B5 - m5))) A) D A (8 * ((z5.1 - m5))) (96 * ((z5.1 - m5))) 3 2 ([wC dT a (a_d 0) (rr5 0 0) (a_k 0) (pim rr5 z5.2.1) z0, wD dT a_d (a_d_p 0) (a_d_k 0) z1, wR dT a_d_p z2, wR dT a_d_k z3, wK dT a_k z4, wRw dT z5.1 rr5 z5.2.2]) [(0, .ref (a 0)), (1, .int l1), (2, .int l2)] [] := by
  intro n
  induction n with
  | zero => intro l2 z0 z1 z2 z3 z5 rr5 hm5 hb5 hg5 hf; cases hf
  | succ n ih =>
    intro l2 z0 z1 z2 z3 z5 rr5 hm5 hb5 hg5 hf
    unfold f_X1_firstGoing_L2 at hf
    refine wa_iload_n C 2 3 dX1_firstGoing_2 rfl rfl ?_
    refine wa_bipush (v := 100) C 5 dX1_firstGoing_3 rfl rfl ?_
    refine wa_icmp_gt C 35 8 dX1_firstGoing_5 rfl rfl (fun c1 => ?_) (fun c1 => ?_)
    · replace hf := ite_t hf c1
      refine wa_iconst (v := (-1)) C 36 dX1_firstGoing_35 rfl rfl ?_
      cases hf
      exact wa_irm C (rr5) dX1_firstGoing_36 hg5 rfl rfl (by show (8 * ((z5.1 - m5))) ≤ 8 * ((B5 - m5)); omega) (by show (96 * ((z5.1 - m5))) ≤ 96 * ((B5 - m5)); omega)
    · replace hf := ite_f hf c1
      refine wa_aload_n C 0 9 dX1_firstGoing_8 rfl rfl ?_
      refine wa_iload_n C 2 10 dX1_firstGoing_9 rfl rfl ?_
      obtain ⟨q2, hq2, hf⟩ := bind_ex hf
      obtain ⟨g3, hf⟩ := grd_ex hf
      replace g3 := of_decide_eq_true g3
      refine wa_callMr (b1 := 0) (q1 := 0) (ci := 1) (As := [.int l2]) C (fun (ru4 : (Nat → Nat → Nat)) => [wC dT a (a_d 0) (ru4 0 0) (a_k 0) (pim ru4 q2.2.2.2.2.2.2.1) q2.2.1, wD dT a_d (a_d_p 0) (a_d_k 0) q2.2.2.1, wR dT a_d_p q2.2.2.2.1, wR dT a_d_k q2.2.2.2.2.1, wK dT a_k z4, wRw dT q2.2.2.2.2.2.1 ru4 q2.2.2.2.2.2.2.2]) 13 dX1_firstGoing_10 rfl kv_X1_59 (c_X1_behind hq2) ⟨rfl, rfl⟩ ⟨Nat.le_of_ble_eq_true rfl, Nat.le_of_ble_eq_true rfl⟩ rfl rfl rfl [0, 1, 2, 3, 4, 5] [] [0, 1, 2, 3, 4, 5] rfl rfl rfl rfl (by decide) rfl (fun _ => rfl) rfl rfl ⟨by show (8 * ((z5.1 - m5))) + 8 * (((max z5.1 ((l2).toNatClampNeg + 1)) - z5.1)) ≤ 8 * ((B5 - m5)); omega, by show (96 * ((z5.1 - m5))) + 96 * (((max z5.1 ((l2).toNatClampNeg + 1)) - z5.1)) ≤ 96 * ((B5 - m5)); omega⟩ (Nat.le_of_ble_eq_true rfl) (fun ru4 hu => ?_)
      refine wa_widen (k := (8 * ((q2.2.2.2.2.2.1 - m5)))) (n := (96 * ((q2.2.2.2.2.2.1 - m5)))) (by omega) (by omega) ?_
      replace hg5 : ∀ k, k < m5 → ru4 k = r5 k := fun k hk => (hu k (by omega)).trans (hg5 k hk)
      replace hm5 : m5 ≤ q2.2.2.2.2.2.1 := by omega
      replace hb5 : q2.2.2.2.2.2.1 - m5 ≤ B5 - m5 := by omega
      refine wa_pop C 14 dX1_firstGoing_13 rfl rfl ?_
      refine wa_aload_n C 0 15 dX1_firstGoing_14 rfl rfl ?_
      refine wa_get C 18 0 0 3 dX1_firstGoing_15 rfl iX1 q253 rfl (Nat.le_of_ble_eq_true rfl) rfl rfl rfl ?_
      refine wa_iload_n C 2 19 dX1_firstGoing_18 rfl rfl ?_
      obtain ⟨g5, hf⟩ := grd_ex hf
      refine wa_iald C 20 0 2 dX1_firstGoing_19 rfl rfl rfl (vi_in g5) ?_
      refine wa_iload_n C 1 21 dX1_firstGoing_20 rfl rfl ?_
      refine wa_ishr C 22 dX1_firstGoing_21 rfl ?_
      refine wa_iconst (v := 1) C 23 dX1_firstGoing_22 rfl rfl ?_
      refine wa_iand C 24 dX1_firstGoing_23 rfl ?_
      refine wa_if_eq C 29 27 dX1_firstGoing_24 rfl rfl (fun c6 => ?_) (fun c6 => ?_)
      · replace hf := ite_t hf c6
        obtain ⟨x7, ex7, hf⟩ := bnd_ex hf
        refine wa_iinc (v := x7) (lv' := [(0, .ref (a 0)), (1, .int l1), (2, .int x7)]) C 2 [1, 2, 0] 32 dX1_firstGoing_29 rfl rfl (by rw [ex7]; rfl) (Nat.le_of_ble_eq_true rfl) rfl ?_
        refine wa_goto C 2 dX1_firstGoing_32 rfl ?_
        exact ih x7 q2.2.1 q2.2.2.1 q2.2.2.2.1 q2.2.2.2.2.1 q2.2.2.2.2.2 ru4 hm5 hb5 hg5 hf
      · replace hf := ite_f hf c6
        refine wa_iload_n C 2 28 dX1_firstGoing_27 rfl rfl ?_
        cases hf
        exact wa_irm C (ru4) dX1_firstGoing_28 hg5 rfl rfl (by show (8 * ((q2.2.2.2.2.2.1 - m5))) ≤ 8 * ((B5 - m5)); omega) (by show (96 * ((q2.2.2.2.2.2.1 - m5))) ≤ 96 * ((B5 - m5)); omega)
set_option maxRecDepth 20000 in
theorem c_X1_firstGoing {l : Launch} {D : va_G} {dT : Nat → ClassId} {a : Nat → Nat} {a_d : Nat → Nat} {a_d_p : Nat → Nat} {a_d_k : Nat → Nat} {a_k : Nat → Nat} {a_r : Nat → Nat → Nat} {v : CS} {v_d : Ob} {v_d_p : Ob} {v_d_k : Ob} {v_k : Ob} {v_r : FS} {B5 : Nat} {p0 : Int32} {res : Int32 × CS × Ob × Ob × Ob × FS} (hf : f_X1_firstGoing v v_d v_d_p v_d_k v_k v_r B5 p0 = some res) : CMi l yX1_firstGoing cX1_firstGoing 3 (some .int) ({ frames := 7, cells := 8 * ((B5 - v_r.1)), slots := 96 * ((B5 - v_r.1)), locals := 153 } : Room) D dT [.ref (a 0), .int p0] ([wC dT a (a_d 0) (a_r 0 0) (a_k 0) (pim a_r v_r.2.1) v, wD dT a_d (a_d_p 0) (a_d_k 0) v_d, wR dT a_d_p v_d_p, wR dT a_d_k v_d_k, wK dT a_k v_k, wRw dT v_r.1 a_r v_r.2.2]) (fun u : (Nat → Nat → Nat) => (∀ k, k < v_r.1 → u k = a_r k)) (fun u : (Nat → Nat → Nat) => [wC dT a (a_d 0) (u 0 0) (a_k 0) (pim u res.2.2.2.2.2.2.1) res.2.1, wD dT a_d (a_d_p 0) (a_d_k 0) res.2.2.1, wR dT a_d_p res.2.2.2.1, wR dT a_d_k res.2.2.2.2.1, wK dT a_k v_k, wRw dT res.2.2.2.2.2.1 u res.2.2.2.2.2.2.2]) res.1 (8 * ((B5 - v_r.1))) (96 * ((B5 - v_r.1))) := by
  refine CMi.of (by decide) (Nat.le_of_ble_eq_true rfl) rfl ?_
  intro p e s m args below meth c A C
  unfold f_X1_firstGoing at hf
  have hm5 : v_r.1 ≤ v_r.1 := Nat.le_refl _
  have hb5 : v_r.1 - v_r.1 ≤ B5 - v_r.1 := by omega
  have hg5 : ∀ k, k < v_r.1 → a_r k = a_r k := fun _ _ => rfl
  refine wa_widen (k := (8 * ((v_r.1 - v_r.1)))) (n := (96 * ((v_r.1 - v_r.1)))) (Nat.zero_le _) (Nat.zero_le _) ?_
  refine wa_iconst (v := 1) C 1 dX1_firstGoing_0 rfl rfl ?_
  refine wa_istore_n (lv' := [(0, .ref (a 0)), (1, .int p0), (2, .int (1 : Int32))]) C [1, 2, 0] 2 dX1_firstGoing_1 rfl (Nat.le_of_ble_eq_true rfl) rfl ?_
  exact w_X1_firstGoing_L2 C FUEL (1 : Int32) v v_d v_d_p v_d_k v_r a_r hm5 hb5 hg5 hf
def f_X1_longestStay_J42 (k7 : Int32 → Int32 → Int32 → CS → Ob → Ob → Ob → FS → Option (Int32 × CS × Ob × Ob × Ob × FS)) (B5 : Nat) (l1 : Int32) (z4 : Ob) (l2 : Int32) (l4 : Int32) (t0 : Int32) (z0 : CS) (z1 : Ob) (z2 : Ob) (z3 : Ob) (z5 : FS) : Option (Int32 × CS × Ob × Ob × Ob × FS) := bnd (if l2 < t0 then t0 else l2) (fun x7 => bnd (l4 + 1) (fun x8 => k7 x7 t0 x8 z0 z1 z2 z3 z5))
def f_X1_longestStay_L7 (B5 : Nat) (l1 : Int32) (z4 : Ob) : Nat → Int32 → Int32 → Int32 → CS → Ob → Ob → Ob → FS → Option (Int32 × CS × Ob × Ob × Ob × FS)
  | 0, _, _, _, _, _, _, _, _ => none
  | n + 1, l2, l3, l4, z0, z1, z2, z3, z5 => (if (100 : Int32) < l4 then some (l2, z0, z1, z2, z3, z5) else (f_X1_behind z0 z1 z2 z3 z4 z5 (max z5.1 ((l4).toNatClampNeg + 1)) l4).bind (fun q2 => grd (decide (z5.1 ≤ q2.2.2.2.2.2.1 ∧ q2.2.2.2.2.2.1 = (max z5.1 ((l4).toNatClampNeg + 1)) ∧ (max z5.1 ((l4).toNatClampNeg + 1)) ≤ B5)) (grd (vi l4 201) ((if (((q2.2.1.2.2 2 (l4).toNatClampNeg) >>> (l1 &&& 31)) &&& (1 : Int32)) = 0 then f_X1_longestStay_J42 (f_X1_longestStay_L7 B5 l1 z4 n) B5 l1 z4 l2 l4 (l3 + (1 : Int32)) q2.2.1 q2.2.2.1 q2.2.2.2.1 q2.2.2.2.2.1 q2.2.2.2.2.2 else f_X1_longestStay_J42 (f_X1_longestStay_L7 B5 l1 z4 n) B5 l1 z4 l2 l4 (0 : Int32) q2.2.1 q2.2.2.1 q2.2.2.2.1 q2.2.2.2.2.1 q2.2.2.2.2.2)))))
def f_X1_longestStay (v : CS) (v_d : Ob) (v_d_p : Ob) (v_d_k : Ob) (v_k : Ob) (v_r : FS) (B5 : Nat) (p0 : Int32) : Option (Int32 × CS × Ob × Ob × Ob × FS) := f_X1_longestStay_L7 B5 p0 v_k FUEL (0 : Int32) (0 : Int32) (1 : Int32) v v_d v_d_p v_d_k v_r
set_option maxRecDepth 20000 in
theorem w_X1_longestStay_J42 {p : Program} {l : Launch} {e : Env} {s : State} {m : MethodId} {args : Array Value} {below : List Frame} {meth : Method} {c : Code} {D : va_G} {A : Nat → Prop} {dT : Nat → ClassId} {a : Nat → Nat} {a_d : Nat → Nat} {a_d_p : Nat → Nat} {a_d_k : Nat → Nat} {a_k : Nat → Nat} {m5 B5 : Nat} {r5 : Nat → Nat → Nat} {res : Int32 × CS × Ob × Ob × Ob × FS} {l1 : Int32} {z4 : Ob} (C : Cx p s m args meth c cX1_longestStay 5 RX1 (some .int) D A dT) {k7 : Int32 → Int32 → Int32 → CS → Ob → Ob → Ob → FS → Option (Int32 × CS × Ob × Ob × Ob × FS)} (hk7 : ∀ (l2 : Int32) (l3 : Int32) (l4 : Int32) (z0 : CS) (z1 : Ob) (z2 : Ob) (z3 : Ob) (z5 : FS) (rr5 : Nat → Nat → Nat), m5 ≤ z5.1 → z5.1 - m5 ≤ B5 - m5 → (∀ k, k < m5 → rr5 k = r5 k) → k7 l2 l3 l4 z0 z1 z2 z3 z5 = some res → WA p l e ({ frames := 7, cells := 8 * ((B5 - m5)), slots := 96 * ((B5 - m5)), locals := 153 } : Room) s m args below meth c (MQ below (va_Qi (fun r9 u => r9 = res.1 ∧ (fun u : (Nat → Nat → Nat) => (∀ k, k < m5 → u k = r5 k)) u) (fun u t => WB D dT A ((fun u : (Nat → Nat → Nat) => [wC dT a (a_d 0) (u 0 0) (a_k 0) (pim u res.2.2.2.2.2.2.1) res.2.1, wD dT a_d (a_d_p 0) (a_d_k 0) res.2.2.1, wR dT a_d_p res.2.2.2.1, wR dT a_d_k res.2.2.2.2.1, wK dT a_k z4, wRw dT res.2.2.2.2.2.1 u res.2.2.2.2.2.2.2]) u) t) A) args s (8 * ((B5 - m5))) (96 * ((B5 - m5))) A) D A (8 * ((z5.1 - m5))) (96 * ((z5.1 - m5))) 5 7 ([wC dT a (a_d 0) (rr5 0 0) (a_k 0) (pim rr5 z5.2.1) z0, wD dT a_d (a_d_p 0) (a_d_k 0) z1, wR dT a_d_p z2, wR dT a_d_k z3, wK dT a_k z4, wRw dT z5.1 rr5 z5.2.2]) [(0, .ref (a 0)), (1, .int l1), (2, .int l2), (3, .int l3), (4, .int l4)] []) : ∀ (l2 : Int32) (l4 : Int32) (t0 : Int32) (z0 : CS) (z1 : Ob) (z2 : Ob) (z3 : Ob) (z5 : FS) (rr5 : Nat → Nat → Nat), m5 ≤ z5.1 → z5.1 - m5 ≤ B5 - m5 → (∀ k, k < m5 → rr5 k = r5 k) → f_X1_longestStay_J42 k7 B5 l1 z4 l2 l4 t0 z0 z1 z2 z3 z5 = some res → WA p l e ({ frames := 7, cells := 8 * ((B5 - m5)), slots := 96 * ((B5 - m5)), locals := 153 } : Room) s m args below meth c (MQ below (va_Qi (fun r9 u => r9 = res.1 ∧ (fun u : (Nat → Nat → Nat) => (∀ k, k < m5 → u k = r5 k)) u) (fun u t => WB D dT A ((fun u : (Nat → Nat → Nat) => [wC dT a (a_d 0) (u 0 0) (a_k 0) (pim u res.2.2.2.2.2.2.1) res.2.1, wD dT a_d (a_d_p 0) (a_d_k 0) res.2.2.1, wR dT a_d_p res.2.2.2.1, wR dT a_d_k res.2.2.2.2.1, wK dT a_k z4, wRw dT res.2.2.2.2.2.1 u res.2.2.2.2.2.2.2]) u) t) A) args s (8 * ((B5 - m5))) (96 * ((B5 - m5))) A) D A (8 * ((z5.1 - m5))) (96 * ((z5.1 - m5))) 5 42 ([wC dT a (a_d 0) (rr5 0 0) (a_k 0) (pim rr5 z5.2.1) z0, wD dT a_d (a_d_p 0) (a_d_k 0) z1, wR dT a_d_p z2, wR dT a_d_k z3, wK dT a_k z4, wRw dT z5.1 rr5 z5.2.2]) [(0, .ref (a 0)), (1, .int l1), (2, .int l2), (4, .int l4)] [.int t0] := by
  intro l2 l4 t0 z0 z1 z2 z3 z5 rr5 hm5 hb5 hg5 hf
  unfold f_X1_longestStay_J42 at hf
  refine wa_istore_n (lv' := [(0, .ref (a 0)), (1, .int l1), (2, .int l2), (3, .int t0), (4, .int l4)]) C [1, 2, 3, 0, 4] 43 dX1_longestStay_42 rfl (Nat.le_of_ble_eq_true rfl) rfl ?_
  refine wa_iload_n C 2 44 dX1_longestStay_43 rfl rfl ?_
  refine wa_iload_n C 3 45 dX1_longestStay_44 rfl rfl ?_
  refine wa_mmax C 48 dX1_longestStay_45 rfl q1175 q740 q18 q741 (Nat.le_of_ble_eq_true rfl) (Nat.le_of_ble_eq_true rfl) ⟨by show (8 * ((z5.1 - m5))) ≤ 8 * ((B5 - m5)); omega, by show (96 * ((z5.1 - m5))) ≤ 96 * ((B5 - m5)); omega⟩ ?_
  obtain ⟨x7, ex7, hf⟩ := bnd_ex hf
  refine wa_topi ex7 ?_
  refine wa_istore_n (lv' := [(0, .ref (a 0)), (1, .int l1), (2, .int x7), (3, .int t0), (4, .int l4)]) C [1, 2, 0, 3, 4] 49 dX1_longestStay_48 rfl (Nat.le_of_ble_eq_true rfl) rfl ?_
  obtain ⟨x8, ex8, hf⟩ := bnd_ex hf
  refine wa_iinc (v := x8) (lv' := [(0, .ref (a 0)), (1, .int l1), (2, .int x7), (3, .int t0), (4, .int x8)]) C 4 [1, 2, 3, 4, 0] 52 dX1_longestStay_49 rfl rfl (by rw [ex8]; rfl) (Nat.le_of_ble_eq_true rfl) rfl ?_
  refine wa_goto C 7 dX1_longestStay_52 rfl ?_
  exact hk7 x7 t0 x8 z0 z1 z2 z3 z5 rr5 hm5 hb5 hg5 hf
set_option maxRecDepth 20000 in
theorem w_X1_longestStay_L7 {p : Program} {l : Launch} {e : Env} {s : State} {m : MethodId} {args : Array Value} {below : List Frame} {meth : Method} {c : Code} {D : va_G} {A : Nat → Prop} {dT : Nat → ClassId} {a : Nat → Nat} {a_d : Nat → Nat} {a_d_p : Nat → Nat} {a_d_k : Nat → Nat} {a_k : Nat → Nat} {m5 B5 : Nat} {r5 : Nat → Nat → Nat} {res : Int32 × CS × Ob × Ob × Ob × FS} {l1 : Int32} {z4 : Ob} (C : Cx p s m args meth c cX1_longestStay 5 RX1 (some .int) D A dT) : ∀ (n : Nat) (l2 : Int32) (l3 : Int32) (l4 : Int32) (z0 : CS) (z1 : Ob) (z2 : Ob) (z3 : Ob) (z5 : FS) (rr5 : Nat → Nat → Nat), m5 ≤ z5.1 → z5.1 - m5 ≤ B5 - m5 → (∀ k, k < m5 → rr5 k = r5 k) → f_X1_longestStay_L7 B5 l1 z4 n l2 l3 l4 z0 z1 z2 z3 z5 = some res → WA p l e ({ frames := 7, cells := 8 * ((B5 - m5)), slots := 96 * ((B5 - m5)), locals := 153 } : Room) s m args below meth c (MQ below (va_Qi (fun r9 u => r9 = res.1 ∧ (fun u : (Nat → Nat → Nat) => (∀ k, k < m5 → u k = r5 k)) u) (fun u t => WB D dT A ((fun u : (Nat → Nat → Nat) => [wC dT a (a_d 0) (u 0 0) (a_k 0) (pim u res.2.2.2.2.2.2.1) res.2.1, wD dT a_d (a_d_p 0) (a_d_k 0) res.2.2.1, wR dT a_d_p res.2.2.2.1, wR dT a_d_k res.2.2.2.2.1, wK dT a_k z4, wRw dT res.2.2.2.2.2.1 u res.2.2.2.2.2.2.2]) u) t) A) args s (8 * ((B5 - m5))) (96 * ((B5 - m5))) A) D A (8 * ((z5.1 - m5))) (96 * ((z5.1 - m5))) 5 7 ([wC dT a (a_d 0) (rr5 0 0) (a_k 0) (pim rr5 z5.2.1) z0, wD dT a_d (a_d_p 0) (a_d_k 0) z1, wR dT a_d_p z2, wR dT a_d_k z3, wK dT a_k z4, wRw dT z5.1 rr5 z5.2.2]) [(0, .ref (a 0)), (1, .int l1), (2, .int l2), (3, .int l3), (4, .int l4)] [] := by
  intro n
  induction n with
  | zero => intro l2 l3 l4 z0 z1 z2 z3 z5 rr5 hm5 hb5 hg5 hf; cases hf
  | succ n ih =>
    intro l2 l3 l4 z0 z1 z2 z3 z5 rr5 hm5 hb5 hg5 hf
    unfold f_X1_longestStay_L7 at hf
    refine wa_iload C 4 9 dX1_longestStay_7 rfl rfl ?_
    refine wa_bipush (v := 100) C 11 dX1_longestStay_9 rfl rfl ?_
    refine wa_icmp_gt C 55 14 dX1_longestStay_11 rfl rfl (fun c1 => ?_) (fun c1 => ?_)
    · replace hf := ite_t hf c1
      refine wa_iload_n C 2 56 dX1_longestStay_55 rfl rfl ?_
      cases hf
      exact wa_irm C (rr5) dX1_longestStay_56 hg5 rfl rfl (by show (8 * ((z5.1 - m5))) ≤ 8 * ((B5 - m5)); omega) (by show (96 * ((z5.1 - m5))) ≤ 96 * ((B5 - m5)); omega)
    · replace hf := ite_f hf c1
      refine wa_aload_n C 0 15 dX1_longestStay_14 rfl rfl ?_
      refine wa_iload C 4 17 dX1_longestStay_15 rfl rfl ?_
      obtain ⟨q2, hq2, hf⟩ := bind_ex hf
      obtain ⟨g3, hf⟩ := grd_ex hf
      replace g3 := of_decide_eq_true g3
      refine wa_callMr (b1 := 0) (q1 := 0) (ci := 1) (As := [.int l4]) C (fun (ru4 : (Nat → Nat → Nat)) => [wC dT a (a_d 0) (ru4 0 0) (a_k 0) (pim ru4 q2.2.2.2.2.2.2.1) q2.2.1, wD dT a_d (a_d_p 0) (a_d_k 0) q2.2.2.1, wR dT a_d_p q2.2.2.2.1, wR dT a_d_k q2.2.2.2.2.1, wK dT a_k z4, wRw dT q2.2.2.2.2.2.1 ru4 q2.2.2.2.2.2.2.2]) 20 dX1_longestStay_17 rfl kv_X1_59 (c_X1_behind hq2) ⟨rfl, rfl⟩ ⟨Nat.le_of_ble_eq_true rfl, Nat.le_of_ble_eq_true rfl⟩ rfl rfl rfl [0, 1, 2, 3, 4, 5] [] [0, 1, 2, 3, 4, 5] rfl rfl rfl rfl (by decide) rfl (fun _ => rfl) rfl rfl ⟨by show (8 * ((z5.1 - m5))) + 8 * (((max z5.1 ((l4).toNatClampNeg + 1)) - z5.1)) ≤ 8 * ((B5 - m5)); omega, by show (96 * ((z5.1 - m5))) + 96 * (((max z5.1 ((l4).toNatClampNeg + 1)) - z5.1)) ≤ 96 * ((B5 - m5)); omega⟩ (Nat.le_of_ble_eq_true rfl) (fun ru4 hu => ?_)
      refine wa_widen (k := (8 * ((q2.2.2.2.2.2.1 - m5)))) (n := (96 * ((q2.2.2.2.2.2.1 - m5)))) (by omega) (by omega) ?_
      replace hg5 : ∀ k, k < m5 → ru4 k = r5 k := fun k hk => (hu k (by omega)).trans (hg5 k hk)
      replace hm5 : m5 ≤ q2.2.2.2.2.2.1 := by omega
      replace hb5 : q2.2.2.2.2.2.1 - m5 ≤ B5 - m5 := by omega
      refine wa_pop C 21 dX1_longestStay_20 rfl rfl ?_
      refine wa_aload_n C 0 22 dX1_longestStay_21 rfl rfl ?_
      refine wa_get C 25 0 0 3 dX1_longestStay_22 rfl iX1 q253 rfl (Nat.le_of_ble_eq_true rfl) rfl rfl rfl ?_
      refine wa_iload C 4 27 dX1_longestStay_25 rfl rfl ?_
      obtain ⟨g5, hf⟩ := grd_ex hf
      refine wa_iald C 28 0 2 dX1_longestStay_27 rfl rfl rfl (vi_in g5) ?_
      refine wa_iload_n C 1 29 dX1_longestStay_28 rfl rfl ?_
      refine wa_ishr C 30 dX1_longestStay_29 rfl ?_
      refine wa_iconst (v := 1) C 31 dX1_longestStay_30 rfl rfl ?_
      refine wa_iand C 32 dX1_longestStay_31 rfl ?_
      refine wa_if_eq C 39 35 dX1_longestStay_32 rfl rfl (fun c6 => ?_) (fun c6 => ?_)
      · replace hf := ite_t hf c6
        refine wa_iload_n C 3 40 dX1_longestStay_39 rfl rfl ?_
        refine wa_iconst (v := 1) C 41 dX1_longestStay_40 rfl rfl ?_
        refine wa_iadd C 42 dX1_longestStay_41 rfl ?_
        refine wa_lv (lv' := [(0, .ref (a 0)), (1, .int l1), (2, .int l2), (4, .int l4)]) [0, 1, 2, 4] rfl ?_
        exact w_X1_longestStay_J42 C ih l2 l4 (l3 + (1 : Int32)) q2.2.1 q2.2.2.1 q2.2.2.2.1 q2.2.2.2.2.1 q2.2.2.2.2.2 ru4 hm5 hb5 hg5 hf
      · replace hf := ite_f hf c6
        refine wa_iconst (v := 0) C 36 dX1_longestStay_35 rfl rfl ?_
        refine wa_goto C 42 dX1_longestStay_36 rfl ?_
        refine wa_lv (lv' := [(0, .ref (a 0)), (1, .int l1), (2, .int l2), (4, .int l4)]) [0, 1, 2, 4] rfl ?_
        exact w_X1_longestStay_J42 C ih l2 l4 (0 : Int32) q2.2.1 q2.2.2.1 q2.2.2.2.1 q2.2.2.2.2.1 q2.2.2.2.2.2 ru4 hm5 hb5 hg5 hf
set_option maxRecDepth 20000 in
theorem c_X1_longestStay {l : Launch} {D : va_G} {dT : Nat → ClassId} {a : Nat → Nat} {a_d : Nat → Nat} {a_d_p : Nat → Nat} {a_d_k : Nat → Nat} {a_k : Nat → Nat} {a_r : Nat → Nat → Nat} {v : CS} {v_d : Ob} {v_d_p : Ob} {v_d_k : Ob} {v_k : Ob} {v_r : FS} {B5 : Nat} {p0 : Int32} {res : Int32 × CS × Ob × Ob × Ob × FS} (hf : f_X1_longestStay v v_d v_d_p v_d_k v_k v_r B5 p0 = some res) : CMi l yX1_longestStay cX1_longestStay 5 (some .int) ({ frames := 7, cells := 8 * ((B5 - v_r.1)), slots := 96 * ((B5 - v_r.1)), locals := 153 } : Room) D dT [.ref (a 0), .int p0] ([wC dT a (a_d 0) (a_r 0 0) (a_k 0) (pim a_r v_r.2.1) v, wD dT a_d (a_d_p 0) (a_d_k 0) v_d, wR dT a_d_p v_d_p, wR dT a_d_k v_d_k, wK dT a_k v_k, wRw dT v_r.1 a_r v_r.2.2]) (fun u : (Nat → Nat → Nat) => (∀ k, k < v_r.1 → u k = a_r k)) (fun u : (Nat → Nat → Nat) => [wC dT a (a_d 0) (u 0 0) (a_k 0) (pim u res.2.2.2.2.2.2.1) res.2.1, wD dT a_d (a_d_p 0) (a_d_k 0) res.2.2.1, wR dT a_d_p res.2.2.2.1, wR dT a_d_k res.2.2.2.2.1, wK dT a_k v_k, wRw dT res.2.2.2.2.2.1 u res.2.2.2.2.2.2.2]) res.1 (8 * ((B5 - v_r.1))) (96 * ((B5 - v_r.1))) := by
  refine CMi.of (by decide) (Nat.le_of_ble_eq_true rfl) rfl ?_
  intro p e s m args below meth c A C
  unfold f_X1_longestStay at hf
  have hm5 : v_r.1 ≤ v_r.1 := Nat.le_refl _
  have hb5 : v_r.1 - v_r.1 ≤ B5 - v_r.1 := by omega
  have hg5 : ∀ k, k < v_r.1 → a_r k = a_r k := fun _ _ => rfl
  refine wa_widen (k := (8 * ((v_r.1 - v_r.1)))) (n := (96 * ((v_r.1 - v_r.1)))) (Nat.zero_le _) (Nat.zero_le _) ?_
  refine wa_iconst (v := 0) C 1 dX1_longestStay_0 rfl rfl ?_
  refine wa_istore_n (lv' := [(0, .ref (a 0)), (1, .int p0), (2, .int (0 : Int32))]) C [1, 2, 0] 2 dX1_longestStay_1 rfl (Nat.le_of_ble_eq_true rfl) rfl ?_
  refine wa_iconst (v := 0) C 3 dX1_longestStay_2 rfl rfl ?_
  refine wa_istore_n (lv' := [(0, .ref (a 0)), (1, .int p0), (2, .int (0 : Int32)), (3, .int (0 : Int32))]) C [1, 2, 3, 0] 4 dX1_longestStay_3 rfl (Nat.le_of_ble_eq_true rfl) rfl ?_
  refine wa_iconst (v := 1) C 5 dX1_longestStay_4 rfl rfl ?_
  refine wa_istore (lv' := [(0, .ref (a 0)), (1, .int p0), (2, .int (0 : Int32)), (3, .int (0 : Int32)), (4, .int (1 : Int32))]) C [1, 2, 3, 4, 0] 7 dX1_longestStay_5 rfl (Nat.le_of_ble_eq_true rfl) rfl ?_
  exact w_X1_longestStay_L7 C FUEL (0 : Int32) (0 : Int32) (1 : Int32) v v_d v_d_p v_d_k v_r a_r hm5 hb5 hg5 hf
theorem kv_X1_72 : KV RX1 72 yX10_dwellers cX10_dwellers 4 (some .int) 1 := KV.mk q1187 q544 q545 q3 q546 ⟨by decide, by decide, by decide +kernel⟩
def f_X1_firstEmpty_L11 (B5 : Nat) (z4 : Ob) : Nat → Int32 → Int32 → CS → Ob → Ob → Ob → FS → Option (Int32 × CS × Ob × Ob × Ob × FS)
  | 0, _, _, _, _, _, _, _ => none
  | n + 1, l2, l3, z0, z1, z2, z3, z5 => (if (100 : Int32) < l3 then some ((-1 : Int32), z0, z1, z2, z3, z5) else (f_X1_behind z0 z1 z2 z3 z4 z5 (max z5.1 ((l3).toNatClampNeg + 1)) l3).bind (fun q5 => grd (decide (z5.1 ≤ q5.2.2.2.2.2.1 ∧ q5.2.2.2.2.2.1 = (max z5.1 ((l3).toNatClampNeg + 1)) ∧ (max z5.1 ((l3).toNatClampNeg + 1)) ≤ B5)) (grd (vi l3 201) (bnd (l2 &&& ((q5.2.1.2.2 2 (l3).toNatClampNeg) ^^^ (-1 : Int32))) (fun x9 => (if x9 = 0 then some (l3, q5.2.1, q5.2.2.1, q5.2.2.2.1, q5.2.2.2.2.1, q5.2.2.2.2.2) else bnd (l3 + 1) (fun x11 => f_X1_firstEmpty_L11 B5 z4 n x9 x11 q5.2.1 q5.2.2.1 q5.2.2.2.1 q5.2.2.2.2.1 q5.2.2.2.2.2)))))))
def f_X1_firstEmpty (v : CS) (v_d : Ob) (v_d_p : Ob) (v_d_k : Ob) (v_k : Ob) (v_r : FS) (B5 : Nat) (p0 : Int32) : Option (Int32 × CS × Ob × Ob × Ob × FS) := grd (decide (0 < v_r.1)) ((f_X10_dwellers (v_r.2.2 0) p0).bind (fun q2 => f_X1_firstEmpty_L11 B5 v_k FUEL q2 (1 : Int32) v v_d v_d_p v_d_k v_r))
set_option maxRecDepth 20000 in
theorem w_X1_firstEmpty_L11 {p : Program} {l : Launch} {e : Env} {s : State} {m : MethodId} {args : Array Value} {below : List Frame} {meth : Method} {c : Code} {D : va_G} {A : Nat → Prop} {dT : Nat → ClassId} {a : Nat → Nat} {a_d : Nat → Nat} {a_d_p : Nat → Nat} {a_d_k : Nat → Nat} {a_k : Nat → Nat} {m5 B5 : Nat} {r5 : Nat → Nat → Nat} {res : Int32 × CS × Ob × Ob × Ob × FS} {z4 : Ob} (C : Cx p s m args meth c cX1_firstEmpty 4 RX1 (some .int) D A dT) : ∀ (n : Nat) (l2 : Int32) (l3 : Int32) (z0 : CS) (z1 : Ob) (z2 : Ob) (z3 : Ob) (z5 : FS) (rr5 : Nat → Nat → Nat), m5 ≤ z5.1 → z5.1 - m5 ≤ B5 - m5 → (∀ k, k < m5 → rr5 k = r5 k) → f_X1_firstEmpty_L11 B5 z4 n l2 l3 z0 z1 z2 z3 z5 = some res → WA p l e ({ frames := 7, cells := 8 * ((B5 - m5)), slots := 96 * ((B5 - m5)), locals := 153 } : Room) s m args below meth c (MQ below (va_Qi (fun r9 u => r9 = res.1 ∧ (fun u : (Nat → Nat → Nat) => (∀ k, k < m5 → u k = r5 k)) u) (fun u t => WB D dT A ((fun u : (Nat → Nat → Nat) => [wC dT a (a_d 0) (u 0 0) (a_k 0) (pim u res.2.2.2.2.2.2.1) res.2.1, wD dT a_d (a_d_p 0) (a_d_k 0) res.2.2.1, wR dT a_d_p res.2.2.2.1, wR dT a_d_k res.2.2.2.2.1, wK dT a_k z4, wRw dT res.2.2.2.2.2.1 u res.2.2.2.2.2.2.2]) u) t) A) args s (8 * ((B5 - m5))) (96 * ((B5 - m5))) A) D A (8 * ((z5.1 - m5))) (96 * ((z5.1 - m5))) 4 11 ([wC dT a (a_d 0) (rr5 0 0) (a_k 0) (pim rr5 z5.2.1) z0, wD dT a_d (a_d_p 0) (a_d_k 0) z1, wR dT a_d_p z2, wR dT a_d_k z3, wK dT a_k z4, wRw dT z5.1 rr5 z5.2.2]) [(0, .ref (a 0)), (2, .int l2), (3, .int l3)] [] := by
  intro n
  induction n with
  | zero => intro l2 l3 z0 z1 z2 z3 z5 rr5 hm5 hb5 hg5 hf; cases hf
  | succ n ih =>
    intro l2 l3 z0 z1 z2 z3 z5 rr5 hm5 hb5 hg5 hf
    unfold f_X1_firstEmpty_L11 at hf
    refine wa_iload_n C 2 12 dX1_firstEmpty_11 rfl rfl ?_
    refine wa_bipush (v := 100) C 14 dX1_firstEmpty_12 rfl rfl ?_
    refine wa_icmp_gt C 46 17 dX1_firstEmpty_14 rfl rfl (fun c4 => ?_) (fun c4 => ?_)
    · replace hf := ite_t hf c4
      refine wa_iconst (v := (-1)) C 47 dX1_firstEmpty_46 rfl rfl ?_
      cases hf
      exact wa_irm C (rr5) dX1_firstEmpty_47 hg5 rfl rfl (by show (8 * ((z5.1 - m5))) ≤ 8 * ((B5 - m5)); omega) (by show (96 * ((z5.1 - m5))) ≤ 96 * ((B5 - m5)); omega)
    · replace hf := ite_f hf c4
      refine wa_aload_n C 0 18 dX1_firstEmpty_17 rfl rfl ?_
      refine wa_iload_n C 2 19 dX1_firstEmpty_18 rfl rfl ?_
      obtain ⟨q5, hq5, hf⟩ := bind_ex hf
      obtain ⟨g6, hf⟩ := grd_ex hf
      replace g6 := of_decide_eq_true g6
      refine wa_callMr (b1 := 0) (q1 := 0) (ci := 1) (As := [.int l3]) C (fun (ru7 : (Nat → Nat → Nat)) => [wC dT a (a_d 0) (ru7 0 0) (a_k 0) (pim ru7 q5.2.2.2.2.2.2.1) q5.2.1, wD dT a_d (a_d_p 0) (a_d_k 0) q5.2.2.1, wR dT a_d_p q5.2.2.2.1, wR dT a_d_k q5.2.2.2.2.1, wK dT a_k z4, wRw dT q5.2.2.2.2.2.1 ru7 q5.2.2.2.2.2.2.2]) 22 dX1_firstEmpty_19 rfl kv_X1_59 (c_X1_behind hq5) ⟨rfl, rfl⟩ ⟨Nat.le_of_ble_eq_true rfl, Nat.le_of_ble_eq_true rfl⟩ rfl rfl rfl [0, 1, 2, 3, 4, 5] [] [0, 1, 2, 3, 4, 5] rfl rfl rfl rfl (by decide) rfl (fun _ => rfl) rfl rfl ⟨by show (8 * ((z5.1 - m5))) + 8 * (((max z5.1 ((l3).toNatClampNeg + 1)) - z5.1)) ≤ 8 * ((B5 - m5)); omega, by show (96 * ((z5.1 - m5))) + 96 * (((max z5.1 ((l3).toNatClampNeg + 1)) - z5.1)) ≤ 96 * ((B5 - m5)); omega⟩ (Nat.le_of_ble_eq_true rfl) (fun ru7 hu => ?_)
      refine wa_widen (k := (8 * ((q5.2.2.2.2.2.1 - m5)))) (n := (96 * ((q5.2.2.2.2.2.1 - m5)))) (by omega) (by omega) ?_
      replace hg5 : ∀ k, k < m5 → ru7 k = r5 k := fun k hk => (hu k (by omega)).trans (hg5 k hk)
      replace hm5 : m5 ≤ q5.2.2.2.2.2.1 := by omega
      replace hb5 : q5.2.2.2.2.2.1 - m5 ≤ B5 - m5 := by omega
      refine wa_pop C 23 dX1_firstEmpty_22 rfl rfl ?_
      refine wa_iload_n C 1 24 dX1_firstEmpty_23 rfl rfl ?_
      refine wa_aload_n C 0 25 dX1_firstEmpty_24 rfl rfl ?_
      refine wa_get C 28 0 0 3 dX1_firstEmpty_25 rfl iX1 q253 rfl (Nat.le_of_ble_eq_true rfl) rfl rfl rfl ?_
      refine wa_iload_n C 2 29 dX1_firstEmpty_28 rfl rfl ?_
      obtain ⟨g8, hf⟩ := grd_ex hf
      refine wa_iald C 30 0 2 dX1_firstEmpty_29 rfl rfl rfl (vi_in g8) ?_
      refine wa_iconst (v := (-1)) C 31 dX1_firstEmpty_30 rfl rfl ?_
      refine wa_ixor C 32 dX1_firstEmpty_31 rfl ?_
      refine wa_iand C 33 dX1_firstEmpty_32 rfl ?_
      obtain ⟨x9, ex9, hf⟩ := bnd_ex hf
      refine wa_topi ex9 ?_
      refine wa_istore_n (lv' := [(0, .ref (a 0)), (2, .int x9), (3, .int l3)]) C [1, 0, 2] 34 dX1_firstEmpty_33 rfl (Nat.le_of_ble_eq_true rfl) rfl ?_
      refine wa_iload_n C 1 35 dX1_firstEmpty_34 rfl rfl ?_
      refine wa_if_ne C 40 38 dX1_firstEmpty_35 rfl rfl (fun c10 => ?_) (fun c10 => ?_)
      · replace hf := ite_f hf c10
        obtain ⟨x11, ex11, hf⟩ := bnd_ex hf
        refine wa_iinc (v := x11) (lv' := [(0, .ref (a 0)), (2, .int x9), (3, .int x11)]) C 2 [1, 2, 0] 43 dX1_firstEmpty_40 rfl rfl (by rw [ex11]; rfl) (Nat.le_of_ble_eq_true rfl) rfl ?_
        refine wa_goto C 11 dX1_firstEmpty_43 rfl ?_
        exact ih x9 x11 q5.2.1 q5.2.2.1 q5.2.2.2.1 q5.2.2.2.2.1 q5.2.2.2.2.2 ru7 hm5 hb5 hg5 hf
      · replace hf := ite_t hf c10
        refine wa_iload_n C 2 39 dX1_firstEmpty_38 rfl rfl ?_
        cases hf
        exact wa_irm C (ru7) dX1_firstEmpty_39 hg5 rfl rfl (by show (8 * ((q5.2.2.2.2.2.1 - m5))) ≤ 8 * ((B5 - m5)); omega) (by show (96 * ((q5.2.2.2.2.2.1 - m5))) ≤ 96 * ((B5 - m5)); omega)
set_option maxRecDepth 20000 in
theorem c_X1_firstEmpty {l : Launch} {D : va_G} {dT : Nat → ClassId} {a : Nat → Nat} {a_d : Nat → Nat} {a_d_p : Nat → Nat} {a_d_k : Nat → Nat} {a_k : Nat → Nat} {a_r : Nat → Nat → Nat} {v : CS} {v_d : Ob} {v_d_p : Ob} {v_d_k : Ob} {v_k : Ob} {v_r : FS} {B5 : Nat} {p0 : Int32} {res : Int32 × CS × Ob × Ob × Ob × FS} (hf : f_X1_firstEmpty v v_d v_d_p v_d_k v_k v_r B5 p0 = some res) : CMi l yX1_firstEmpty cX1_firstEmpty 4 (some .int) ({ frames := 7, cells := 8 * ((B5 - v_r.1)), slots := 96 * ((B5 - v_r.1)), locals := 153 } : Room) D dT [.ref (a 0), .int p0] ([wC dT a (a_d 0) (a_r 0 0) (a_k 0) (pim a_r v_r.2.1) v, wD dT a_d (a_d_p 0) (a_d_k 0) v_d, wR dT a_d_p v_d_p, wR dT a_d_k v_d_k, wK dT a_k v_k, wRw dT v_r.1 a_r v_r.2.2]) (fun u : (Nat → Nat → Nat) => (∀ k, k < v_r.1 → u k = a_r k)) (fun u : (Nat → Nat → Nat) => [wC dT a (a_d 0) (u 0 0) (a_k 0) (pim u res.2.2.2.2.2.2.1) res.2.1, wD dT a_d (a_d_p 0) (a_d_k 0) res.2.2.1, wR dT a_d_p res.2.2.2.1, wR dT a_d_k res.2.2.2.2.1, wK dT a_k v_k, wRw dT res.2.2.2.2.2.1 u res.2.2.2.2.2.2.2]) res.1 (8 * ((B5 - v_r.1))) (96 * ((B5 - v_r.1))) := by
  refine CMi.of (by decide) (Nat.le_of_ble_eq_true rfl) rfl ?_
  intro p e s m args below meth c A C
  unfold f_X1_firstEmpty at hf
  have hm5 : v_r.1 ≤ v_r.1 := Nat.le_refl _
  have hb5 : v_r.1 - v_r.1 ≤ B5 - v_r.1 := by omega
  have hg5 : ∀ k, k < v_r.1 → a_r k = a_r k := fun _ _ => rfl
  refine wa_widen (k := (8 * ((v_r.1 - v_r.1)))) (n := (96 * ((v_r.1 - v_r.1)))) (Nat.zero_le _) (Nat.zero_le _) ?_
  refine wa_aload_n C 0 1 dX1_firstEmpty_0 rfl rfl ?_
  refine wa_get C 4 0 0 1 dX1_firstEmpty_1 rfl iX1 q251 rfl (Nat.le_of_ble_eq_true rfl) rfl rfl rfl ?_
  refine wa_iload_n C 1 5 dX1_firstEmpty_4 rfl rfl ?_
  obtain ⟨g1, hf⟩ := grd_ex hf
  replace g1 := of_decide_eq_true g1
  refine wa_openF 5 0 g1 List.not_mem_nil rfl ?_
  obtain ⟨q2, hq2, hf⟩ := bind_ex hf
  refine wa_callVi (b1 := 6) (q1 := 0) (ci := 10) (ws' := [wC dT a (a_d 0) (a_r 0 0) (a_k 0) (pim a_r v_r.2.1) v, wD dT a_d (a_d_p 0) (a_d_k 0) v_d, wR dT a_d_p v_d_p, wR dT a_d_k v_d_k, wK dT a_k v_k, wRm dT v_r.1 [0] a_r v_r.2.2, wV dT (a_r 0) (v_r.2.2 0)]) (As := [.int p0]) C 8 dX1_firstEmpty_5 rfl kv_X1_72 (c_X10_dwellers hq2) ⟨rfl, rfl⟩ ⟨Nat.le_of_ble_eq_true rfl, Nat.le_of_ble_eq_true rfl⟩ rfl rfl rfl [6] [0, 1, 2, 3, 4, 5] [0, 1, 2, 3, 4, 5, 6] rfl rfl rfl rfl (by decide) rfl rfl rfl rfl ⟨by show (8 * ((v_r.1 - v_r.1))) ≤ 8 * ((B5 - v_r.1)); omega, by show (96 * ((v_r.1 - v_r.1))) ≤ 96 * ((B5 - v_r.1)); omega⟩ (Nat.le_of_ble_eq_true rfl) ?_
  refine wa_closeR (ws := [wC dT a (a_d 0) (a_r 0 0) (a_k 0) (pim a_r v_r.2.1) v, wD dT a_d (a_d_p 0) (a_d_k 0) v_d, wR dT a_d_p v_d_p, wR dT a_d_k v_d_k, wK dT a_k v_k, wRm dT v_r.1 [0] a_r v_r.2.2]) (ws' := [wC dT a (a_d 0) (a_r 0 0) (a_k 0) (pim a_r v_r.2.1) v, wD dT a_d (a_d_p 0) (a_d_k 0) v_d, wR dT a_d_p v_d_p, wR dT a_d_k v_d_k, wK dT a_k v_k, wRm dT v_r.1 [] a_r v_r.2.2]) 5 0 g1 List.not_mem_nil rfl rfl ?_
  refine wa_ws (ws' := [wC dT a (a_d 0) (a_r 0 0) (a_k 0) (pim a_r v_r.2.1) v, wD dT a_d (a_d_p 0) (a_d_k 0) v_d, wR dT a_d_p v_d_p, wR dT a_d_k v_d_k, wK dT a_k v_k, wRw dT v_r.1 a_r v_r.2.2]) rfl ?_
  refine wa_istore_n (lv' := [(0, .ref (a 0)), (1, .int p0), (2, .int q2)]) C [1, 2, 0] 9 dX1_firstEmpty_8 rfl (Nat.le_of_ble_eq_true rfl) rfl ?_
  refine wa_iconst (v := 1) C 10 dX1_firstEmpty_9 rfl rfl ?_
  refine wa_istore_n (lv' := [(0, .ref (a 0)), (1, .int p0), (2, .int q2), (3, .int (1 : Int32))]) C [1, 2, 3, 0] 11 dX1_firstEmpty_10 rfl (Nat.le_of_ble_eq_true rfl) rfl ?_
  refine wa_lv (lv' := [(0, .ref (a 0)), (2, .int q2), (3, .int (1 : Int32))]) [0, 2, 3] rfl ?_
  exact w_X1_firstEmpty_L11 C FUEL q2 (1 : Int32) v v_d v_d_p v_d_k v_r a_r hm5 hb5 hg5 hf
