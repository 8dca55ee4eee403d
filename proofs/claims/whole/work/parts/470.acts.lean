def f_X0_dropFirst_L9 (w1 : Nat) : Nat → Int32 → Ob → FS → Option (Ob × FS)
  | 0, _, _, _ => none
  | n + 1, l2, z0, z1 => (if (40 : Int32) ≤ l2 then grd (decide (w1 < z1.1)) (grd (vi (39 : Int32) 40) (bnd ((z1.1, upO z1.2.1 ((39 : Int32)).toNatClampNeg (some w1), z1.2.2) : FS) (fun y6 => bnd (upd z0.1 0 (39 : Int32), z0.2) (fun y7 => some (y7, y6))))) else grd (vi l2 40) ((z1.2.1 (l2).toNatClampNeg).bind (fun k9 => grd (decide (k9 < z1.1)) (grd (vi (l2 - (1 : Int32)) 40) (bnd ((z1.1, upO z1.2.1 ((l2 - (1 : Int32))).toNatClampNeg (some k9), z1.2.2) : FS) (fun y12 => bnd (l2 + 1) (fun x13 => f_X0_dropFirst_L9 w1 n x13 z0 y12)))))))
def f_X0_dropFirst (v : Ob) (v_b : FS) : Option (Ob × FS) := grd (vi (0 : Int32) 40) ((v_b.2.1 ((0 : Int32)).toNatClampNeg).bind (fun k2 => f_X0_dropFirst_L9 k2 FUEL (1 : Int32) v v_b))
set_option maxRecDepth 20000 in
theorem w_X0_dropFirst_L9 {p : Program} {l : Launch} {e : Env} {s : State} {m : MethodId} {args : Array Value} {below : List Frame} {meth : Method} {c : Code} {D : va_G} {A : Nat → Prop} {dT : Nat → ClassId} {a : Nat → Nat} {a_b : Nat → Nat → Nat} {res : Ob × FS} {w1 : Nat} (C : Cx p s m args meth c cX0_dropFirst 3 RX0 none D A dT) : ∀ (n : Nat) (l2 : Int32) (z0 : Ob) (z1 : FS), f_X0_dropFirst_L9 w1 n l2 z0 z1 = some res → WA p l e ({ frames := 0, cells := 0, slots := 0, locals := 0 } : Room) s m args below meth c (MQ below (QV D dT A ([wA dT a (pim a_b res.2.2.1) res.1, wRw dT res.2.1 a_b res.2.2.2])) args s 0 0 A) D A 0 0 3 9 ([wA dT a (pim a_b z1.2.1) z0, wRw dT z1.1 a_b z1.2.2]) [(0, .ref (a 0)), (1, .ref (a_b w1 0)), (2, .int l2)] [] := by
  intro n
  induction n with
  | zero => intro l2 z0 z1 hf; cases hf
  | succ n ih =>
    intro l2 z0 z1 hf
    unfold f_X0_dropFirst_L9 at hf
    refine wa_iload_n C 2 10 dX0_dropFirst_9 rfl rfl ?_
    refine wa_bipush (v := 40) C 12 dX0_dropFirst_10 rfl rfl ?_
    refine wa_icmp_ge C 35 15 dX0_dropFirst_12 rfl rfl (fun c3 => ?_) (fun c3 => ?_)
    · replace hf := ite_t hf c3
      refine wa_aload_n C 0 36 dX0_dropFirst_35 rfl rfl ?_
      refine wa_get C 39 0 0 1 dX0_dropFirst_36 rfl iX0 q281 rfl (Nat.le_of_ble_eq_true rfl) rfl rfl rfl ?_
      refine wa_bipush (v := 39) C 41 dX0_dropFirst_39 rfl rfl ?_
      refine wa_aload_n C 1 42 dX0_dropFirst_41 rfl rfl ?_
      obtain ⟨g4, hf⟩ := grd_ex hf
      obtain ⟨g5, hf⟩ := grd_ex hf
      obtain ⟨y6, ey6, hf⟩ := bnd_ex hf
      refine wa_astk (ws' := [wA dT a (pim a_b y6.2.1) z0, wRw dT y6.1 a_b y6.2.2]) C 43 0 1 1 dX0_dropFirst_42 rfl rfl rfl rfl (of_decide_eq_true g4) (vi_in g5) (by rw [ey6]; rfl) ?_
      refine wa_aload_n C 0 44 dX0_dropFirst_43 rfl rfl ?_
      refine wa_bipush (v := 39) C 46 dX0_dropFirst_44 rfl rfl ?_
      obtain ⟨y7, ey7, hf⟩ := bnd_ex hf
      refine wa_put (ws' := [wA dT a (pim a_b y6.2.1) y7, wRw dT y6.1 a_b y6.2.2]) C 49 0 0 0 tyX0 dX0_dropFirst_46 rfl iX0 tyX0_ok nmX0 q279 rfl (Nat.le_of_ble_eq_true rfl) rfl rfl rfl rfl rfl (Nat.le_of_ble_eq_true rfl) (by rw [ey7]; rfl) ?_
      cases hf
      exact wa_vret C dX0_dropFirst_49 rfl
    · replace hf := ite_f hf c3
      refine wa_aload_n C 0 16 dX0_dropFirst_15 rfl rfl ?_
      refine wa_get C 19 0 0 1 dX0_dropFirst_16 rfl iX0 q281 rfl (Nat.le_of_ble_eq_true rfl) rfl rfl rfl ?_
      refine wa_iload_n C 2 20 dX0_dropFirst_19 rfl rfl ?_
      refine wa_iconst (v := 1) C 21 dX0_dropFirst_20 rfl rfl ?_
      refine wa_isub C 22 dX0_dropFirst_21 rfl ?_
      refine wa_aload_n C 0 23 dX0_dropFirst_22 rfl rfl ?_
      refine wa_get C 26 0 0 1 dX0_dropFirst_23 rfl iX0 q281 rfl (Nat.le_of_ble_eq_true rfl) rfl rfl rfl ?_
      refine wa_iload_n C 2 27 dX0_dropFirst_26 rfl rfl ?_
      obtain ⟨g8, hf⟩ := grd_ex hf
      obtain ⟨k9, hk9, hf⟩ := bind_ex hf
      refine wa_aldr C 28 0 1 dX0_dropFirst_27 rfl rfl rfl (vi_in g8) (pim_some hk9) ?_
      obtain ⟨g10, hf⟩ := grd_ex hf
      obtain ⟨g11, hf⟩ := grd_ex hf
      obtain ⟨y12, ey12, hf⟩ := bnd_ex hf
      refine wa_astk (ws' := [wA dT a (pim a_b y12.2.1) z0, wRw dT y12.1 a_b y12.2.2]) C 29 0 1 1 dX0_dropFirst_28 rfl rfl rfl rfl (of_decide_eq_true g10) (vi_in g11) (by rw [ey12]; rfl) ?_
      obtain ⟨x13, ex13, hf⟩ := bnd_ex hf
      refine wa_iinc (v := x13) (lv' := [(0, .ref (a 0)), (1, .ref (a_b w1 0)), (2, .int x13)]) C 2 [1, 2, 0] 32 dX0_dropFirst_29 rfl rfl (by rw [ex13]; rfl) (Nat.le_of_ble_eq_true rfl) rfl ?_
      refine wa_goto C 9 dX0_dropFirst_32 rfl ?_
      exact ih x13 z0 y12 hf
set_option maxRecDepth 20000 in
theorem c_X0_dropFirst {l : Launch} {D : va_G} {dT : Nat → ClassId} {a : Nat → Nat} {a_b : Nat → Nat → Nat} {v : Ob} {v_b : FS} {res : Ob × FS} (hf : f_X0_dropFirst v v_b = some res) : CTv l yX0_dropFirst cX0_dropFirst 3 none ({ frames := 0, cells := 0, slots := 0, locals := 0 } : Room) D dT [.ref (a 0)] ([wA dT a (pim a_b v_b.2.1) v, wRw dT v_b.1 a_b v_b.2.2]) ([wA dT a (pim a_b res.2.2.1) res.1, wRw dT res.2.1 a_b res.2.2.2]) := by
  refine CTv.of (by decide) (Nat.le_of_ble_eq_true rfl) rfl ?_
  intro p e s m args below meth c A C
  unfold f_X0_dropFirst at hf
  refine wa_aload_n C 0 1 dX0_dropFirst_0 rfl rfl ?_
  refine wa_get C 4 0 0 1 dX0_dropFirst_1 rfl iX0 q281 rfl (Nat.le_of_ble_eq_true rfl) rfl rfl rfl ?_
  refine wa_iconst (v := 0) C 5 dX0_dropFirst_4 rfl rfl ?_
  obtain ⟨g1, hf⟩ := grd_ex hf
  obtain ⟨k2, hk2, hf⟩ := bind_ex hf
  refine wa_aldr C 6 0 1 dX0_dropFirst_5 rfl rfl rfl (vi_in g1) (pim_some hk2) ?_
  refine wa_astore_n (lv' := [(0, .ref (a 0)), (1, .ref (a_b k2 0))]) C [1, 0] 7 dX0_dropFirst_6 rfl (Nat.le_of_ble_eq_true rfl) rfl ?_
  refine wa_iconst (v := 1) C 8 dX0_dropFirst_7 rfl rfl ?_
  refine wa_istore_n (lv' := [(0, .ref (a 0)), (1, .ref (a_b k2 0)), (2, .int (1 : Int32))]) C [1, 2, 0] 9 dX0_dropFirst_8 rfl (Nat.le_of_ble_eq_true rfl) rfl ?_
  exact w_X0_dropFirst_L9 C FUEL (1 : Int32) v v_b hf
theorem kv_X0_22 : KV RX0 22 yX0_row cX0_row 2 (some (.object "NewHouses$Village")) 1 := KV.mk q437 q439 qs3 q9 q440 ⟨by decide, by decide, by decide +kernel⟩
theorem kv_X0_26 : KV RX0 26 yX10_copyFrom cX10_copyFrom 2 none 1 := KV.mk q442 q443 q444 q3 q445 ⟨by decide, by decide, by decide +kernel⟩
theorem kv_X0_30 : KV RX0 30 yX0_dropFirst cX0_dropFirst 3 none 0 := KV.mk q433 q435 qs2 q9 q436 ⟨by decide, by decide, by decide +kernel⟩
def f_X0_keep_J13 (B1 : Nat) (z2 : Ob) (z0 : Ob) (z1 : FS) : Option (Ob × FS) := (rowF 40 z1 (z0.1 0)).bind (fun q2 => grd (decide (z1.1 ≤ q2.2.1 ∧ q2.2.1 ≤ B1)) (grd (decide (q2.1 < q2.2.1)) ((f_X10_copyFrom (q2.2.2.2 q2.1) z2).bind (fun q6 => bnd ((q2.2.1, q2.2.2.1, sV q2.2.2.2 q2.1 q6) : FS) (fun y8 => bnd (upd z0.1 0 ((z0.1 0) + (1 : Int32)), z0.2) (fun y9 => some (y9, y8)))))))
def f_X0_keep (v : Ob) (v_b : FS) (v0 : Ob) (B1 : Nat) : Option (Ob × FS) := (if (v.1 0) < (40 : Int32) then f_X0_keep_J13 B1 v0 v v_b else (f_X0_dropFirst v v_b).bind (fun q10 => grd (decide (q10.2.1 = v_b.1)) (f_X0_keep_J13 B1 v0 q10.1 q10.2)))
set_option maxRecDepth 20000 in
theorem w_X0_keep_J13 {p : Program} {l : Launch} {e : Env} {s : State} {m : MethodId} {args : Array Value} {below : List Frame} {meth : Method} {c : Code} {D : va_G} {A : Nat → Prop} {dT : Nat → ClassId} {a : Nat → Nat} {a0 : Nat → Nat} {m1 B1 : Nat} {r1 : Nat → Nat → Nat} {res : Ob × FS} {z2 : Ob} (C : Cx p s m args meth c cX0_keep 2 RX0 none D A dT) : ∀ (z0 : Ob) (z1 : FS) (rr1 : Nat → Nat → Nat), m1 ≤ z1.1 → z1.1 - m1 ≤ B1 - m1 → (∀ k, k < m1 → rr1 k = r1 k) → f_X0_keep_J13 B1 z2 z0 z1 = some res → WA p l e ({ frames := 4, cells := 8 * ((B1 - m1)), slots := 96 * ((B1 - m1)), locals := 81 } : Room) s m args below meth c (MQ below (va_Qv (fun u : (Nat → Nat → Nat) => (∀ k, k < m1 → u k = r1 k)) (fun u t => WB D dT A ((fun u : (Nat → Nat → Nat) => [wA dT a (pim u res.2.2.1) res.1, wRw dT res.2.1 u res.2.2.2, wV dT a0 z2]) u) t) A) args s (8 * ((B1 - m1))) (96 * ((B1 - m1))) A) D A (8 * ((z1.1 - m1))) (96 * ((z1.1 - m1))) 2 13 ([wA dT a (pim rr1 z1.2.1) z0, wRw dT z1.1 rr1 z1.2.2, wV dT a0 z2]) [(0, .ref (a 0)), (1, .ref (a0 0))] [] := by
  intro z0 z1 rr1 hm1 hb1 hg1 hf
  unfold f_X0_keep_J13 at hf
  refine wa_aload_n C 0 14 dX0_keep_13 rfl rfl ?_
  refine wa_aload_n C 0 15 dX0_keep_14 rfl rfl ?_
  refine wa_get C 18 0 0 0 dX0_keep_15 rfl iX0 q279 rfl (Nat.le_of_ble_eq_true rfl) rfl rfl rfl ?_
  obtain ⟨q2, hq2, hf⟩ := bind_ex hf
  obtain ⟨g3, hf⟩ := grd_ex hf
  replace g3 := of_decide_eq_true g3
  refine wa_callMr (b1 := 0) (q1 := 0) (ci := 0) (As := [.int (z0.1 0)]) C (fun ru4 => [wA dT a (pim ru4 q2.2.2.1) z0, wRw dT q2.2.1 ru4 q2.2.2.2, wV dT a0 z2]) 21 dX0_keep_18 rfl kv_X0_22 (c_X0_row hq2) ⟨rfl, rfl⟩ ⟨Nat.le_of_ble_eq_true rfl, Nat.le_of_ble_eq_true rfl⟩ rfl rfl rfl [0, 1] [2] [1, 2, 0] rfl rfl rfl rfl (by decide) rfl (fun _ => rfl) rfl rfl ⟨by show (8 * ((z1.1 - m1))) + 8 * (q2.2.1 - z1.1) ≤ 8 * ((B1 - m1)); omega, by show (96 * ((z1.1 - m1))) + 96 * (q2.2.1 - z1.1) ≤ 96 * ((B1 - m1)); omega⟩ (Nat.le_of_ble_eq_true rfl) (fun ru4 hu => ?_)
  refine wa_widen (k := (8 * ((q2.2.1 - m1)))) (n := (96 * ((q2.2.1 - m1)))) (by omega) (by omega) ?_
  replace hg1 : ∀ k, k < m1 → ru4 k = r1 k := fun k hk => (hu k (by omega)).trans (hg1 k hk)
  replace hm1 : m1 ≤ q2.2.1 := by omega
  replace hb1 : q2.2.1 - m1 ≤ B1 - m1 := by omega
  refine wa_aload_n C 1 22 dX0_keep_21 rfl rfl ?_
  obtain ⟨g5, hf⟩ := grd_ex hf
  replace g5 := of_decide_eq_true g5
  refine wa_openF 1 q2.1 g5 List.not_mem_nil rfl ?_
  obtain ⟨q6, hq6, hf⟩ := bind_ex hf
  obtain ⟨y8, ey8, hf⟩ := bnd_ex hf
  refine wa_callVv (b1 := 3) (q1 := 0) (ci := 10) (ws' := [wA dT a (pim ru4 q2.2.2.1) z0, wRm dT q2.2.1 [q2.1] ru4 q2.2.2.2, wV dT a0 z2, wV dT (ru4 q2.1) q6]) (As := [.ref (a0 0)]) C 25 dX0_keep_22 rfl kv_X0_26 (c_X10_copyFrom hq6) ⟨rfl, rfl⟩ ⟨Nat.le_of_ble_eq_true rfl, Nat.le_of_ble_eq_true rfl⟩ rfl rfl rfl [3, 2] [0, 1] [0, 1, 3, 2] rfl rfl rfl rfl (by decide) rfl rfl rfl rfl ⟨by show (8 * ((q2.2.1 - m1))) ≤ 8 * ((B1 - m1)); omega, by show (96 * ((q2.2.1 - m1))) ≤ 96 * ((B1 - m1)); omega⟩ (Nat.le_of_ble_eq_true rfl) ?_
  refine wa_closeF (ws := [wA dT a (pim ru4 q2.2.2.1) z0, wRm dT q2.2.1 [q2.1] ru4 q2.2.2.2, wV dT a0 z2]) (ws' := [wA dT a (pim ru4 q2.2.2.1) z0, wRm dT q2.2.1 [] ru4 (sV q2.2.2.2 q2.1 q6), wV dT a0 z2]) 1 q2.1 g5 List.not_mem_nil rfl rfl rfl ?_
  refine wa_ws (ws' := [wA dT a (pim ru4 y8.2.1) z0, wRw dT y8.1 ru4 y8.2.2, wV dT a0 z2]) (by rw [ey8]) ?_
  have hc9 : y8.1 = q2.2.1 := (by first | omega | rw [ey8])
  replace hm1 : m1 ≤ y8.1 := by omega
  replace hb1 : y8.1 - m1 ≤ B1 - m1 := by omega
  refine wa_widen (k := (8 * ((y8.1 - m1)))) (n := (96 * ((y8.1 - m1)))) (by omega) (by omega) ?_
  refine wa_aload_n C 0 26 dX0_keep_25 rfl rfl ?_
  refine wa_dup C 27 dX0_keep_26 rfl rfl ?_
  refine wa_get C 30 0 0 0 dX0_keep_27 rfl iX0 q279 rfl (Nat.le_of_ble_eq_true rfl) rfl rfl rfl ?_
  refine wa_iconst (v := 1) C 31 dX0_keep_30 rfl rfl ?_
  refine wa_iadd C 32 dX0_keep_31 rfl ?_
  obtain ⟨y9, ey9, hf⟩ := bnd_ex hf
  refine wa_put (ws' := [wA dT a (pim ru4 y8.2.1) y9, wRw dT y8.1 ru4 y8.2.2, wV dT a0 z2]) C 35 0 0 0 tyX0 dX0_keep_32 rfl iX0 tyX0_ok nmX0 q279 rfl (Nat.le_of_ble_eq_true rfl) rfl rfl rfl rfl rfl (Nat.le_of_ble_eq_true rfl) (by rw [ey9]; rfl) ?_
  cases hf
  exact wa_vrm C (ru4) dX0_keep_35 hg1 rfl (by show (8 * ((y8.1 - m1))) ≤ 8 * ((B1 - m1)); omega) (by show (96 * ((y8.1 - m1))) ≤ 96 * ((B1 - m1)); omega)
set_option maxRecDepth 20000 in
theorem c_X0_keep {l : Launch} {D : va_G} {dT : Nat → ClassId} {a : Nat → Nat} {a_b : Nat → Nat → Nat} {a0 : Nat → Nat} {v : Ob} {v_b : FS} {v0 : Ob} {B1 : Nat} {res : Ob × FS} (hf : f_X0_keep v v_b v0 B1 = some res) : CMv l yX0_keep cX0_keep 2 none ({ frames := 4, cells := 8 * ((B1 - v_b.1)), slots := 96 * ((B1 - v_b.1)), locals := 81 } : Room) D dT [.ref (a 0), .ref (a0 0)] ([wA dT a (pim a_b v_b.2.1) v, wRw dT v_b.1 a_b v_b.2.2, wV dT a0 v0]) (fun u : (Nat → Nat → Nat) => (∀ k, k < v_b.1 → u k = a_b k)) (fun u : (Nat → Nat → Nat) => [wA dT a (pim u res.2.2.1) res.1, wRw dT res.2.1 u res.2.2.2, wV dT a0 v0]) (8 * ((B1 - v_b.1))) (96 * ((B1 - v_b.1))) := by
  refine CMv.of (by decide) (Nat.le_of_ble_eq_true rfl) rfl ?_
  intro p e s m args below meth c A C
  unfold f_X0_keep at hf
  have hm1 : v_b.1 ≤ v_b.1 := Nat.le_refl _
  have hb1 : v_b.1 - v_b.1 ≤ B1 - v_b.1 := by omega
  have hg1 : ∀ k, k < v_b.1 → a_b k = a_b k := fun _ _ => rfl
  refine wa_widen (k := (8 * ((v_b.1 - v_b.1)))) (n := (96 * ((v_b.1 - v_b.1)))) (Nat.zero_le _) (Nat.zero_le _) ?_
  refine wa_aload_n C 0 1 dX0_keep_0 rfl rfl ?_
  refine wa_get C 4 0 0 0 dX0_keep_1 rfl iX0 q279 rfl (Nat.le_of_ble_eq_true rfl) rfl rfl rfl ?_
  refine wa_bipush (v := 40) C 6 dX0_keep_4 rfl rfl ?_
  refine wa_icmp_lt C 13 9 dX0_keep_6 rfl rfl (fun c1 => ?_) (fun c1 => ?_)
  · replace hf := ite_t hf c1
    exact w_X0_keep_J13 C v v_b a_b hm1 hb1 hg1 hf
  · replace hf := ite_f hf c1
    refine wa_aload_n C 0 10 dX0_keep_9 rfl rfl ?_
    obtain ⟨q10, hq10, hf⟩ := bind_ex hf
    obtain ⟨g11, hf⟩ := grd_ex hf
    replace g11 := of_decide_eq_true g11
    refine wa_callVv (b1 := 0) (q1 := 0) (ci := 0) (ws' := [wA dT a (pim a_b q10.2.2.1) q10.1, wRw dT q10.2.1 a_b q10.2.2.2, wV dT a0 v0]) (As := []) C 13 dX0_keep_10 rfl kv_X0_30 (c_X0_dropFirst hq10) ⟨rfl, rfl⟩ ⟨Nat.le_of_ble_eq_true rfl, Nat.le_of_ble_eq_true rfl⟩ rfl rfl rfl [0, 1] [2] [1, 2, 0] rfl rfl rfl rfl (by decide) rfl rfl rfl rfl ⟨by show (8 * ((v_b.1 - v_b.1))) ≤ 8 * ((B1 - v_b.1)); omega, by show (96 * ((v_b.1 - v_b.1))) ≤ 96 * ((B1 - v_b.1)); omega⟩ (Nat.le_of_ble_eq_true rfl) ?_
    have hc9 : q10.2.1 = v_b.1 := (by first | omega | rw [rfl])
    replace hm1 : v_b.1 ≤ q10.2.1 := by omega
    replace hb1 : q10.2.1 - v_b.1 ≤ B1 - v_b.1 := by omega
    refine wa_widen (k := (8 * ((q10.2.1 - v_b.1)))) (n := (96 * ((q10.2.1 - v_b.1)))) (by omega) (by omega) ?_
    exact w_X0_keep_J13 C q10.1 q10.2 a_b hm1 hb1 hg1 hf
def f_X0_copyFrom_L10 (B1 : Nat) (B3 : Nat) (z2 : Ob) : Nat → Int32 → Ob → FS → FS → Option (Ob × FS × FS)
  | 0, _, _, _, _ => none
  | n + 1, l2, z0, z1, z3 => (if (z0.1 0) ≤ l2 then some (z0, z1, z3) else (rowF 40 z1 l2).bind (fun q3 => grd (decide (z1.1 ≤ q3.2.1 ∧ q3.2.1 ≤ B1)) ((rowF 40 z3 l2).bind (fun q6 => grd (decide (z3.1 ≤ q6.2.1 ∧ q6.2.1 ≤ B3)) (grd (decide (q3.1 < q3.2.1)) (grd (decide (q6.1 < q6.2.1)) ((f_X10_copyFrom (q3.2.2.2 q3.1) (q6.2.2.2 q6.1)).bind (fun q11 => bnd ((q3.2.1, q3.2.2.1, sV q3.2.2.2 q3.1 q11) : FS) (fun y13 => bnd (l2 + 1) (fun x14 => f_X0_copyFrom_L10 B1 B3 z2 n x14 z0 y13 q6.2))))))))))
def f_X0_copyFrom (v : Ob) (v_b : FS) (v0 : Ob) (v0_b : FS) (B1 : Nat) (B3 : Nat) : Option (Ob × FS × FS) := bnd (upd v.1 0 (v0.1 0), v.2) (fun y1 => f_X0_copyFrom_L10 B1 B3 v0 FUEL (0 : Int32) y1 v_b v0_b)
set_option maxRecDepth 20000 in
theorem w_X0_copyFrom_L10 {p : Program} {l : Launch} {e : Env} {s : State} {m : MethodId} {args : Array Value} {below : List Frame} {meth : Method} {c : Code} {D : va_G} {A : Nat → Prop} {dT : Nat → ClassId} {a : Nat → Nat} {a0 : Nat → Nat} {m1 B1 : Nat} {r1 : Nat → Nat → Nat} {m3 B3 : Nat} {r3 : Nat → Nat → Nat} {res : Ob × FS × FS} {z2 : Ob} (C : Cx p s m args meth c cX0_copyFrom 3 RX0 none D A dT) : ∀ (n : Nat) (l2 : Int32) (z0 : Ob) (z1 : FS) (z3 : FS) (rr1 : Nat → Nat → Nat) (rr3 : Nat → Nat → Nat), m1 ≤ z1.1 → z1.1 - m1 ≤ B1 - m1 → (∀ k, k < m1 → rr1 k = r1 k) → m3 ≤ z3.1 → z3.1 - m3 ≤ B3 - m3 → (∀ k, k < m3 → rr3 k = r3 k) → f_X0_copyFrom_L10 B1 B3 z2 n l2 z0 z1 z3 = some res → WA p l e ({ frames := 4, cells := 8 * ((B1 - m1) + (B3 - m3)), slots := 96 * ((B1 - m1) + (B3 - m3)), locals := 81 } : Room) s m args below meth c (MQ below (va_Qv (fun u : (Nat → Nat → Nat) × (Nat → Nat → Nat) => (∀ k, k < m1 → u.1 k = r1 k) ∧ (∀ k, k < m3 → u.2 k = r3 k)) (fun u t => WB D dT A ((fun u : (Nat → Nat → Nat) × (Nat → Nat → Nat) => [wA dT a (pim u.1 res.2.1.2.1) res.1, wRw dT res.2.1.1 u.1 res.2.1.2.2, wA dT a0 (pim u.2 res.2.2.2.1) z2, wRw dT res.2.2.1 u.2 res.2.2.2.2]) u) t) A) args s (8 * ((B1 - m1) + (B3 - m3))) (96 * ((B1 - m1) + (B3 - m3))) A) D A (8 * ((z1.1 - m1) + (z3.1 - m3))) (96 * ((z1.1 - m1) + (z3.1 - m3))) 3 10 ([wA dT a (pim rr1 z1.2.1) z0, wRw dT z1.1 rr1 z1.2.2, wA dT a0 (pim rr3 z3.2.1) z2, wRw dT z3.1 rr3 z3.2.2]) [(0, .ref (a 0)), (1, .ref (a0 0)), (2, .int l2)] [] := by
  intro n
  induction n with
  | zero => intro l2 z0 z1 z3 rr1 rr3 hm1 hb1 hg1 hm3 hb3 hg3 hf; cases hf
  | succ n ih =>
    intro l2 z0 z1 z3 rr1 rr3 hm1 hb1 hg1 hm3 hb3 hg3 hf
    unfold f_X0_copyFrom_L10 at hf
    refine wa_iload_n C 2 11 dX0_copyFrom_10 rfl rfl ?_
    refine wa_aload_n C 0 12 dX0_copyFrom_11 rfl rfl ?_
    refine wa_get C 15 0 0 0 dX0_copyFrom_12 rfl iX0 q279 rfl (Nat.le_of_ble_eq_true rfl) rfl rfl rfl ?_
    refine wa_icmp_ge C 37 18 dX0_copyFrom_15 rfl rfl (fun c2 => ?_) (fun c2 => ?_)
    · replace hf := ite_t hf c2
      cases hf
      exact wa_vrm C (rr1, rr3) dX0_copyFrom_37 ⟨hg1, hg3⟩ rfl (by show (8 * ((z1.1 - m1) + (z3.1 - m3))) ≤ 8 * ((B1 - m1) + (B3 - m3)); omega) (by show (96 * ((z1.1 - m1) + (z3.1 - m3))) ≤ 96 * ((B1 - m1) + (B3 - m3)); omega)
    · replace hf := ite_f hf c2
      refine wa_aload_n C 0 19 dX0_copyFrom_18 rfl rfl ?_
      refine wa_iload_n C 2 20 dX0_copyFrom_19 rfl rfl ?_
      obtain ⟨q3, hq3, hf⟩ := bind_ex hf
      obtain ⟨g4, hf⟩ := grd_ex hf
      replace g4 := of_decide_eq_true g4
      refine wa_callMr (b1 := 0) (q1 := 0) (ci := 0) (As := [.int l2]) C (fun ru5 => [wA dT a (pim ru5 q3.2.2.1) z0, wRw dT q3.2.1 ru5 q3.2.2.2, wA dT a0 (pim rr3 z3.2.1) z2, wRw dT z3.1 rr3 z3.2.2]) 23 dX0_copyFrom_20 rfl kv_X0_22 (c_X0_row hq3) ⟨rfl, rfl⟩ ⟨Nat.le_of_ble_eq_true rfl, Nat.le_of_ble_eq_true rfl⟩ rfl rfl rfl [0, 1] [2, 3] [2, 3, 0, 1] rfl rfl rfl rfl (by decide) rfl (fun _ => rfl) rfl rfl ⟨by show (8 * ((z1.1 - m1) + (z3.1 - m3))) + 8 * (q3.2.1 - z1.1) ≤ 8 * ((B1 - m1) + (B3 - m3)); omega, by show (96 * ((z1.1 - m1) + (z3.1 - m3))) + 96 * (q3.2.1 - z1.1) ≤ 96 * ((B1 - m1) + (B3 - m3)); omega⟩ (Nat.le_of_ble_eq_true rfl) (fun ru5 hu => ?_)
      refine wa_widen (k := (8 * ((q3.2.1 - m1) + (z3.1 - m3)))) (n := (96 * ((q3.2.1 - m1) + (z3.1 - m3)))) (by omega) (by omega) ?_
      replace hg1 : ∀ k, k < m1 → ru5 k = r1 k := fun k hk => (hu k (by omega)).trans (hg1 k hk)
      replace hm1 : m1 ≤ q3.2.1 := by omega
      replace hb1 : q3.2.1 - m1 ≤ B1 - m1 := by omega
      refine wa_aload_n C 1 24 dX0_copyFrom_23 rfl rfl ?_
      refine wa_iload_n C 2 25 dX0_copyFrom_24 rfl rfl ?_
      obtain ⟨q6, hq6, hf⟩ := bind_ex hf
      obtain ⟨g7, hf⟩ := grd_ex hf
      replace g7 := of_decide_eq_true g7
      refine wa_callMr (b1 := 2) (q1 := 0) (ci := 0) (As := [.int l2]) C (fun ru8 => [wA dT a (pim ru5 q3.2.2.1) z0, wRw dT q3.2.1 ru5 q3.2.2.2, wA dT a0 (pim ru8 q6.2.2.1) z2, wRw dT q6.2.1 ru8 q6.2.2.2]) 28 dX0_copyFrom_25 rfl kv_X0_22 (c_X0_row hq6) ⟨rfl, rfl⟩ ⟨Nat.le_of_ble_eq_true rfl, Nat.le_of_ble_eq_true rfl⟩ rfl rfl rfl [2, 3] [0, 1] [0, 1, 2, 3] rfl rfl rfl rfl (by decide) rfl (fun _ => rfl) rfl rfl ⟨by show (8 * ((q3.2.1 - m1) + (z3.1 - m3))) + 8 * (q6.2.1 - z3.1) ≤ 8 * ((B1 - m1) + (B3 - m3)); omega, by show (96 * ((q3.2.1 - m1) + (z3.1 - m3))) + 96 * (q6.2.1 - z3.1) ≤ 96 * ((B1 - m1) + (B3 - m3)); omega⟩ (Nat.le_of_ble_eq_true rfl) (fun ru8 hu => ?_)
      refine wa_widen (k := (8 * ((q3.2.1 - m1) + (q6.2.1 - m3)))) (n := (96 * ((q3.2.1 - m1) + (q6.2.1 - m3)))) (by omega) (by omega) ?_
      replace hg3 : ∀ k, k < m3 → ru8 k = r3 k := fun k hk => (hu k (by omega)).trans (hg3 k hk)
      replace hm3 : m3 ≤ q6.2.1 := by omega
      replace hb3 : q6.2.1 - m3 ≤ B3 - m3 := by omega
      obtain ⟨g9, hf⟩ := grd_ex hf
      replace g9 := of_decide_eq_true g9
      refine wa_openF 1 q3.1 g9 List.not_mem_nil rfl ?_
      obtain ⟨g10, hf⟩ := grd_ex hf
      replace g10 := of_decide_eq_true g10
      refine wa_openF 3 q6.1 g10 List.not_mem_nil rfl ?_
      obtain ⟨q11, hq11, hf⟩ := bind_ex hf
      obtain ⟨y13, ey13, hf⟩ := bnd_ex hf
      refine wa_callVv (b1 := 4) (q1 := 0) (ci := 10) (ws' := [wA dT a (pim ru5 q3.2.2.1) z0, wRm dT q3.2.1 [q3.1] ru5 q3.2.2.2, wA dT a0 (pim ru8 q6.2.2.1) z2, wRm dT q6.2.1 [q6.1] ru8 q6.2.2.2, wV dT (ru5 q3.1) q11, wV dT (ru8 q6.1) (q6.2.2.2 q6.1)]) (As := [.ref (ru8 q6.1 0)]) C 31 dX0_copyFrom_28 rfl kv_X0_26 (c_X10_copyFrom hq11) ⟨rfl, rfl⟩ ⟨Nat.le_of_ble_eq_true rfl, Nat.le_of_ble_eq_true rfl⟩ rfl rfl rfl [4, 5] [0, 1, 2, 3] [0, 1, 2, 3, 4, 5] rfl rfl rfl rfl (by decide) rfl rfl rfl rfl ⟨by show (8 * ((q3.2.1 - m1) + (q6.2.1 - m3))) ≤ 8 * ((B1 - m1) + (B3 - m3)); omega, by show (96 * ((q3.2.1 - m1) + (q6.2.1 - m3))) ≤ 96 * ((B1 - m1) + (B3 - m3)); omega⟩ (Nat.le_of_ble_eq_true rfl) ?_
      refine wa_closeR (ws := [wA dT a (pim ru5 q3.2.2.1) z0, wRm dT q3.2.1 [q3.1] ru5 q3.2.2.2, wA dT a0 (pim ru8 q6.2.2.1) z2, wRm dT q6.2.1 [q6.1] ru8 q6.2.2.2, wV dT (ru5 q3.1) q11]) (ws' := [wA dT a (pim ru5 q3.2.2.1) z0, wRm dT q3.2.1 [q3.1] ru5 q3.2.2.2, wA dT a0 (pim ru8 q6.2.2.1) z2, wRm dT q6.2.1 [] ru8 q6.2.2.2, wV dT (ru5 q3.1) q11]) 3 q6.1 g10 List.not_mem_nil rfl rfl ?_
      refine wa_closeF (ws := [wA dT a (pim ru5 q3.2.2.1) z0, wRm dT q3.2.1 [q3.1] ru5 q3.2.2.2, wA dT a0 (pim ru8 q6.2.2.1) z2, wRm dT q6.2.1 [] ru8 q6.2.2.2]) (ws' := [wA dT a (pim ru5 q3.2.2.1) z0, wRm dT q3.2.1 [] ru5 (sV q3.2.2.2 q3.1 q11), wA dT a0 (pim ru8 q6.2.2.1) z2, wRm dT q6.2.1 [] ru8 q6.2.2.2]) 1 q3.1 g9 List.not_mem_nil rfl rfl rfl ?_
      refine wa_ws (ws' := [wA dT a (pim ru5 y13.2.1) z0, wRw dT y13.1 ru5 y13.2.2, wA dT a0 (pim ru8 q6.2.2.1) z2, wRw dT q6.2.1 ru8 q6.2.2.2]) (by rw [ey13]) ?_
      have hc9 : y13.1 = q3.2.1 := (by first | omega | rw [ey13])
      replace hm1 : m1 ≤ y13.1 := by omega
      replace hb1 : y13.1 - m1 ≤ B1 - m1 := by omega
      refine wa_widen (k := (8 * ((y13.1 - m1) + (q6.2.1 - m3)))) (n := (96 * ((y13.1 - m1) + (q6.2.1 - m3)))) (by omega) (by omega) ?_
      obtain ⟨x14, ex14, hf⟩ := bnd_ex hf
      refine wa_iinc (v := x14) (lv' := [(0, .ref (a 0)), (1, .ref (a0 0)), (2, .int x14)]) C 2 [1, 2, 0] 34 dX0_copyFrom_31 rfl rfl (by rw [ex14]; rfl) (Nat.le_of_ble_eq_true rfl) rfl ?_
      refine wa_goto C 10 dX0_copyFrom_34 rfl ?_
      exact ih x14 z0 y13 q6.2 ru5 ru8 hm1 hb1 hg1 hm3 hb3 hg3 hf
set_option maxRecDepth 20000 in
theorem c_X0_copyFrom {l : Launch} {D : va_G} {dT : Nat → ClassId} {a : Nat → Nat} {a_b : Nat → Nat → Nat} {a0 : Nat → Nat} {a0_b : Nat → Nat → Nat} {v : Ob} {v_b : FS} {v0 : Ob} {v0_b : FS} {B1 : Nat} {B3 : Nat} {res : Ob × FS × FS} (hf : f_X0_copyFrom v v_b v0 v0_b B1 B3 = some res) : CMv l yX0_copyFrom cX0_copyFrom 3 none ({ frames := 4, cells := 8 * ((B1 - v_b.1) + (B3 - v0_b.1)), slots := 96 * ((B1 - v_b.1) + (B3 - v0_b.1)), locals := 81 } : Room) D dT [.ref (a 0), .ref (a0 0)] ([wA dT a (pim a_b v_b.2.1) v, wRw dT v_b.1 a_b v_b.2.2, wA dT a0 (pim a0_b v0_b.2.1) v0, wRw dT v0_b.1 a0_b v0_b.2.2]) (fun u : (Nat → Nat → Nat) × (Nat → Nat → Nat) => (∀ k, k < v_b.1 → u.1 k = a_b k) ∧ (∀ k, k < v0_b.1 → u.2 k = a0_b k)) (fun u : (Nat → Nat → Nat) × (Nat → Nat → Nat) => [wA dT a (pim u.1 res.2.1.2.1) res.1, wRw dT res.2.1.1 u.1 res.2.1.2.2, wA dT a0 (pim u.2 res.2.2.2.1) v0, wRw dT res.2.2.1 u.2 res.2.2.2.2]) (8 * ((B1 - v_b.1) + (B3 - v0_b.1))) (96 * ((B1 - v_b.1) + (B3 - v0_b.1))) := by
  refine CMv.of (by decide) (Nat.le_of_ble_eq_true rfl) rfl ?_
  intro p e s m args below meth c A C
  unfold f_X0_copyFrom at hf
  have hm1 : v_b.1 ≤ v_b.1 := Nat.le_refl _
  have hb1 : v_b.1 - v_b.1 ≤ B1 - v_b.1 := by omega
  have hg1 : ∀ k, k < v_b.1 → a_b k = a_b k := fun _ _ => rfl
  have hm3 : v0_b.1 ≤ v0_b.1 := Nat.le_refl _
  have hb3 : v0_b.1 - v0_b.1 ≤ B3 - v0_b.1 := by omega
  have hg3 : ∀ k, k < v0_b.1 → a0_b k = a0_b k := fun _ _ => rfl
  refine wa_widen (k := (8 * ((v_b.1 - v_b.1) + (v0_b.1 - v0_b.1)))) (n := (96 * ((v_b.1 - v_b.1) + (v0_b.1 - v0_b.1)))) (Nat.zero_le _) (Nat.zero_le _) ?_
  refine wa_aload_n C 0 1 dX0_copyFrom_0 rfl rfl ?_
  refine wa_aload_n C 1 2 dX0_copyFrom_1 rfl rfl ?_
  refine wa_get C 5 2 0 0 dX0_copyFrom_2 rfl iX0 q279 rfl (Nat.le_of_ble_eq_true rfl) rfl rfl rfl ?_
  obtain ⟨y1, ey1, hf⟩ := bnd_ex hf
  refine wa_put (ws' := [wA dT a (pim a_b v_b.2.1) y1, wRw dT v_b.1 a_b v_b.2.2, wA dT a0 (pim a0_b v0_b.2.1) v0, wRw dT v0_b.1 a0_b v0_b.2.2]) C 8 0 0 0 tyX0 dX0_copyFrom_5 rfl iX0 tyX0_ok nmX0 q279 rfl (Nat.le_of_ble_eq_true rfl) rfl rfl rfl rfl rfl (Nat.le_of_ble_eq_true rfl) (by rw [ey1]; rfl) ?_
  refine wa_iconst (v := 0) C 9 dX0_copyFrom_8 rfl rfl ?_
  refine wa_istore_n (lv' := [(0, .ref (a 0)), (1, .ref (a0 0)), (2, .int (0 : Int32))]) C [1, 2, 0] 10 dX0_copyFrom_9 rfl (Nat.le_of_ble_eq_true rfl) rfl ?_
  exact w_X0_copyFrom_L10 C FUEL (0 : Int32) y1 v_b v0_b a_b a0_b hm1 hb1 hg1 hm3 hb3 hg3 hf
def f_X0_takeBack (v : Ob) (v_b : FS) (v0 : Ob) (B1 : Nat) : Option (Ob × FS × Ob) := (if (v.1 0) ≤ 0 then some (v, v_b, v0) else bnd (upd v.1 0 ((v.1 0) - (1 : Int32)), v.2) (fun y2 => (rowF 40 v_b (y2.1 0)).bind (fun q3 => grd (decide (v_b.1 ≤ q3.2.1 ∧ q3.2.1 ≤ B1)) (grd (decide (q3.1 < q3.2.1)) ((f_X10_copyFrom v0 (q3.2.2.2 q3.1)).bind (fun q7 => some (y2, q3.2, q7)))))))
set_option maxRecDepth 20000 in
theorem c_X0_takeBack {l : Launch} {D : va_G} {dT : Nat → ClassId} {a : Nat → Nat} {a_b : Nat → Nat → Nat} {a0 : Nat → Nat} {v : Ob} {v_b : FS} {v0 : Ob} {B1 : Nat} {res : Ob × FS × Ob} (hf : f_X0_takeBack v v_b v0 B1 = some res) : CMv l yX0_takeBack cX0_takeBack 2 none ({ frames := 4, cells := 8 * ((B1 - v_b.1)), slots := 96 * ((B1 - v_b.1)), locals := 81 } : Room) D dT [.ref (a 0), .ref (a0 0)] ([wA dT a (pim a_b v_b.2.1) v, wRw dT v_b.1 a_b v_b.2.2, wV dT a0 v0]) (fun u : (Nat → Nat → Nat) => (∀ k, k < v_b.1 → u k = a_b k)) (fun u : (Nat → Nat → Nat) => [wA dT a (pim u res.2.1.2.1) res.1, wRw dT res.2.1.1 u res.2.1.2.2, wV dT a0 res.2.2]) (8 * ((B1 - v_b.1))) (96 * ((B1 - v_b.1))) := by
  refine CMv.of (by decide) (Nat.le_of_ble_eq_true rfl) rfl ?_
  intro p e s m args below meth c A C
  unfold f_X0_takeBack at hf
  have hm1 : v_b.1 ≤ v_b.1 := Nat.le_refl _
  have hb1 : v_b.1 - v_b.1 ≤ B1 - v_b.1 := by omega
  have hg1 : ∀ k, k < v_b.1 → a_b k = a_b k := fun _ _ => rfl
  refine wa_widen (k := (8 * ((v_b.1 - v_b.1)))) (n := (96 * ((v_b.1 - v_b.1)))) (Nat.zero_le _) (Nat.zero_le _) ?_
  refine wa_aload_n C 0 1 dX0_takeBack_0 rfl rfl ?_
  refine wa_get C 4 0 0 0 dX0_takeBack_1 rfl iX0 q279 rfl (Nat.le_of_ble_eq_true rfl) rfl rfl rfl ?_
  refine wa_if_le C 29 7 dX0_takeBack_4 rfl rfl (fun c1 => ?_) (fun c1 => ?_)
  · replace hf := ite_t hf c1
    cases hf
    exact wa_vrm C (a_b) dX0_takeBack_29 hg1 rfl (by show (8 * ((v_b.1 - v_b.1))) ≤ 8 * ((B1 - v_b.1)); omega) (by show (96 * ((v_b.1 - v_b.1))) ≤ 96 * ((B1 - v_b.1)); omega)
  · replace hf := ite_f hf c1
    refine wa_aload_n C 0 8 dX0_takeBack_7 rfl rfl ?_
    refine wa_dup C 9 dX0_takeBack_8 rfl rfl ?_
    refine wa_get C 12 0 0 0 dX0_takeBack_9 rfl iX0 q279 rfl (Nat.le_of_ble_eq_true rfl) rfl rfl rfl ?_
    refine wa_iconst (v := 1) C 13 dX0_takeBack_12 rfl rfl ?_
    refine wa_isub C 14 dX0_takeBack_13 rfl ?_
    obtain ⟨y2, ey2, hf⟩ := bnd_ex hf
    refine wa_put (ws' := [wA dT a (pim a_b v_b.2.1) y2, wRw dT v_b.1 a_b v_b.2.2, wV dT a0 v0]) C 17 0 0 0 tyX0 dX0_takeBack_14 rfl iX0 tyX0_ok nmX0 q279 rfl (Nat.le_of_ble_eq_true rfl) rfl rfl rfl rfl rfl (Nat.le_of_ble_eq_true rfl) (by rw [ey2]; rfl) ?_
    refine wa_aload_n C 1 18 dX0_takeBack_17 rfl rfl ?_
    refine wa_aload_n C 0 19 dX0_takeBack_18 rfl rfl ?_
    refine wa_aload_n C 0 20 dX0_takeBack_19 rfl rfl ?_
    refine wa_get C 23 0 0 0 dX0_takeBack_20 rfl iX0 q279 rfl (Nat.le_of_ble_eq_true rfl) rfl rfl rfl ?_
    obtain ⟨q3, hq3, hf⟩ := bind_ex hf
    obtain ⟨g4, hf⟩ := grd_ex hf
    replace g4 := of_decide_eq_true g4
    refine wa_callMr (b1 := 0) (q1 := 0) (ci := 0) (As := [.int (y2.1 0)]) C (fun ru5 => [wA dT a (pim ru5 q3.2.2.1) y2, wRw dT q3.2.1 ru5 q3.2.2.2, wV dT a0 v0]) 26 dX0_takeBack_23 rfl kv_X0_22 (c_X0_row hq3) ⟨rfl, rfl⟩ ⟨Nat.le_of_ble_eq_true rfl, Nat.le_of_ble_eq_true rfl⟩ rfl rfl rfl [0, 1] [2] [1, 2, 0] rfl rfl rfl rfl (by decide) rfl (fun _ => rfl) rfl rfl ⟨by show (8 * ((v_b.1 - v_b.1))) + 8 * (q3.2.1 - v_b.1) ≤ 8 * ((B1 - v_b.1)); omega, by show (96 * ((v_b.1 - v_b.1))) + 96 * (q3.2.1 - v_b.1) ≤ 96 * ((B1 - v_b.1)); omega⟩ (Nat.le_of_ble_eq_true rfl) (fun ru5 hu => ?_)
    refine wa_widen (k := (8 * ((q3.2.1 - v_b.1)))) (n := (96 * ((q3.2.1 - v_b.1)))) (by omega) (by omega) ?_
    replace hg1 : ∀ k, k < v_b.1 → ru5 k = a_b k := fun k hk => (hu k (by omega)).trans (hg1 k hk)
    replace hm1 : v_b.1 ≤ q3.2.1 := by omega
    replace hb1 : q3.2.1 - v_b.1 ≤ B1 - v_b.1 := by omega
    obtain ⟨g6, hf⟩ := grd_ex hf
    replace g6 := of_decide_eq_true g6
    refine wa_openF 1 q3.1 g6 List.not_mem_nil rfl ?_
    obtain ⟨q7, hq7, hf⟩ := bind_ex hf
    refine wa_callVv (b1 := 2) (q1 := 0) (ci := 10) (ws' := [wA dT a (pim ru5 q3.2.2.1) y2, wRm dT q3.2.1 [q3.1] ru5 q3.2.2.2, wV dT a0 q7, wV dT (ru5 q3.1) (q3.2.2.2 q3.1)]) (As := [.ref (ru5 q3.1 0)]) C 29 dX0_takeBack_26 rfl kv_X0_26 (c_X10_copyFrom hq7) ⟨rfl, rfl⟩ ⟨Nat.le_of_ble_eq_true rfl, Nat.le_of_ble_eq_true rfl⟩ rfl rfl rfl [2, 3] [0, 1] [0, 1, 2, 3] rfl rfl rfl rfl (by decide) rfl rfl rfl rfl ⟨by show (8 * ((q3.2.1 - v_b.1))) ≤ 8 * ((B1 - v_b.1)); omega, by show (96 * ((q3.2.1 - v_b.1))) ≤ 96 * ((B1 - v_b.1)); omega⟩ (Nat.le_of_ble_eq_true rfl) ?_
    refine wa_closeR (ws := [wA dT a (pim ru5 q3.2.2.1) y2, wRm dT q3.2.1 [q3.1] ru5 q3.2.2.2, wV dT a0 q7]) (ws' := [wA dT a (pim ru5 q3.2.2.1) y2, wRm dT q3.2.1 [] ru5 q3.2.2.2, wV dT a0 q7]) 1 q3.1 g6 List.not_mem_nil rfl rfl ?_
    refine wa_ws (ws' := [wA dT a (pim ru5 q3.2.2.1) y2, wRw dT q3.2.1 ru5 q3.2.2.2, wV dT a0 q7]) rfl ?_
    cases hf
    exact wa_vrm C (ru5) dX0_takeBack_29 hg1 rfl (by show (8 * ((q3.2.1 - v_b.1))) ≤ 8 * ((B1 - v_b.1)); omega) (by show (96 * ((q3.2.1 - v_b.1))) ≤ 96 * ((B1 - v_b.1)); omega)
