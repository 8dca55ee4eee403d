def f_X12_image_L28 : Nat → Int32 → MS → Option (MS)
  | 0, _, _ => none
  | n + 1, l1, z0 => (if (86 : Int32) ≤ l1 then (f_X12_copies (z0.2.2 11) (z0.2.2 24) 3440 3440).bind (fun q6 => bnd (z0.1, z0.2.1, sA z0.2.2 24 q6) (fun y7 => (f_X12_copies (y7.2.2 20) (y7.2.2 25) 24 24).bind (fun q8 => bnd (y7.1, y7.2.1, sA y7.2.2 25 q8) (fun y9 => some (y9))))) else grd (vi l1 172) (grd (vi l1 86) (bnd (z0.1, z0.2.1, uA z0.2.2 23 (l1).toNatClampNeg (z0.2.2 10 (l1).toNatClampNeg)) (fun y12 => bnd (l1 + 1) (fun x13 => f_X12_image_L28 n x13 y12)))))
def f_X12_image (v : MS) : Option (MS) := bnd (upd v.1 0 (0 : Int32), v.2) (fun y1 => bnd (upd y1.1 53 (1 : Int32), y1.2) (fun y2 => bnd (upd y2.1 54 (y2.1 36), y2.2) (fun y3 => bnd (upd y3.1 55 (y3.1 48), y3.2) (fun y4 => f_X12_image_L28 FUEL (0 : Int32) y4))))
set_option maxRecDepth 20000 in
theorem w_X12_image_L28 {p : Program} {l : Launch} {e : Env} {s : State} {m : MethodId} {args : Array Value} {below : List Frame} {meth : Method} {c : Code} {D : va_G} {A : Nat → Prop} {dT : Nat → ClassId} {a : Nat → Nat} {res : MS} (C : Cx p s m args meth c cX12_image 2 RX12 none D A dT) : ∀ (n : Nat) (l1 : Int32) (z0 : MS), f_X12_image_L28 n l1 z0 = some res → WA p l e ({ frames := 1, cells := 0, slots := 0, locals := 23 } : Room) s m args below meth c (MQ below (QV D dT A ([wM dT a res])) args s 0 0 A) D A 0 0 2 28 ([wM dT a z0]) [(0, .ref (a 0)), (1, .int l1)] [] := by
  intro n
  induction n with
  | zero => intro l1 z0 hf; cases hf
  | succ n ih =>
    intro l1 z0 hf
    unfold f_X12_image_L28 at hf
    refine wa_iload_n C 1 29 dX12_image_28 rfl rfl ?_
    refine wa_bipush (v := 86) C 31 dX12_image_29 rfl rfl ?_
    refine wa_icmp_ge C 52 34 dX12_image_31 rfl rfl (fun c5 => ?_) (fun c5 => ?_)
    · replace hf := ite_t hf c5
      refine wa_aload_n C 0 53 dX12_image_52 rfl rfl ?_
      refine wa_aload_n C 0 54 dX12_image_53 rfl rfl ?_
      refine wa_get C 57 0 0 35 dX12_image_54 rfl iX12 q1484 rfl (Nat.le_of_ble_eq_true rfl) rfl rfl rfl ?_
      refine wa_aload_n C 0 58 dX12_image_57 rfl rfl ?_
      refine wa_get C 61 0 0 57 dX12_image_58 rfl iX12 q1506 rfl (Nat.le_of_ble_eq_true rfl) rfl rfl rfl ?_
      refine wa_open 0 11 rfl rfl ?_
      refine wa_open 0 23 rfl rfl ?_
      obtain ⟨q6, hq6, hf⟩ := bind_ex hf
      obtain ⟨y7, ey7, hf⟩ := bnd_ex hf
      refine wa_callVv (b1 := 0) (q1 := 0) (ci := 12) (ws' := [((wM dT a z0).eraseIdx 11).eraseIdx 23, [(a 11, .inl (dT 0, 3440, .inl (z0.2.2 11)))], [(a 24, .inl (dT 0, 3440, .inl q6))]]) (As := [.ref (a 11), .ref (a 24)]) C 64 dX12_image_61 rfl kv_X12_270 (c_X12_copies hq6) ⟨rfl, rfl⟩ ⟨Nat.le_of_ble_eq_true rfl, Nat.le_of_ble_eq_true rfl⟩ rfl rfl rfl [1, 2] [0] [0, 1, 2] rfl rfl rfl rfl (by decide) rfl rfl rfl rfl ⟨Nat.zero_le _, Nat.zero_le _⟩ (Nat.le_of_ble_eq_true rfl) ?_
      refine wa_close (ws := [((wM dT a z0).eraseIdx 11).eraseIdx 23, [(a 11, .inl (dT 0, 3440, .inl (z0.2.2 11)))]]) (ws' := [(wM dT a y7).eraseIdx 11, [(a 11, .inl (dT 0, 3440, .inl (z0.2.2 11)))]]) 0 23 ((wM dT a y7).eraseIdx 11) (by rw [ey7]; rfl) (by rw [ey7]; rfl) rfl ?_
      refine wa_close (ws := [(wM dT a y7).eraseIdx 11]) (ws' := [wM dT a y7]) 0 11 (wM dT a y7) (by rw [ey7]; rfl) (by rw [ey7]; rfl) rfl ?_
      refine wa_aload_n C 0 65 dX12_image_64 rfl rfl ?_
      refine wa_aload_n C 0 66 dX12_image_65 rfl rfl ?_
      refine wa_get C 69 0 0 49 dX12_image_66 rfl iX12 q1498 rfl (Nat.le_of_ble_eq_true rfl) rfl rfl rfl ?_
      refine wa_aload_n C 0 70 dX12_image_69 rfl rfl ?_
      refine wa_get C 73 0 0 58 dX12_image_70 rfl iX12 q1507 rfl (Nat.le_of_ble_eq_true rfl) rfl rfl rfl ?_
      refine wa_open 0 20 rfl rfl ?_
      refine wa_open 0 24 rfl rfl ?_
      obtain ⟨q8, hq8, hf⟩ := bind_ex hf
      obtain ⟨y9, ey9, hf⟩ := bnd_ex hf
      refine wa_callVv (b1 := 0) (q1 := 0) (ci := 12) (ws' := [((wM dT a y7).eraseIdx 20).eraseIdx 24, [(a 20, .inl (dT 0, 24, .inl (y7.2.2 20)))], [(a 25, .inl (dT 0, 24, .inl q8))]]) (As := [.ref (a 20), .ref (a 25)]) C 76 dX12_image_73 rfl kv_X12_270 (c_X12_copies hq8) ⟨rfl, rfl⟩ ⟨Nat.le_of_ble_eq_true rfl, Nat.le_of_ble_eq_true rfl⟩ rfl rfl rfl [1, 2] [0] [0, 1, 2] rfl rfl rfl rfl (by decide) rfl rfl rfl rfl ⟨Nat.zero_le _, Nat.zero_le _⟩ (Nat.le_of_ble_eq_true rfl) ?_
      refine wa_close (ws := [((wM dT a y7).eraseIdx 20).eraseIdx 24, [(a 20, .inl (dT 0, 24, .inl (y7.2.2 20)))]]) (ws' := [(wM dT a y9).eraseIdx 20, [(a 20, .inl (dT 0, 24, .inl (y7.2.2 20)))]]) 0 24 ((wM dT a y9).eraseIdx 20) (by rw [ey9]; rfl) (by rw [ey9]; rfl) rfl ?_
      refine wa_close (ws := [(wM dT a y9).eraseIdx 20]) (ws' := [wM dT a y9]) 0 20 (wM dT a y9) (by rw [ey9]; rfl) (by rw [ey9]; rfl) rfl ?_
      cases hf
      exact wa_vret C dX12_image_76 rfl
    · replace hf := ite_f hf c5
      refine wa_aload_n C 0 35 dX12_image_34 rfl rfl ?_
      refine wa_get C 38 0 0 56 dX12_image_35 rfl iX12 q1505 rfl (Nat.le_of_ble_eq_true rfl) rfl rfl rfl ?_
      refine wa_iload_n C 1 39 dX12_image_38 rfl rfl ?_
      refine wa_aload_n C 0 40 dX12_image_39 rfl rfl ?_
      refine wa_get C 43 0 0 34 dX12_image_40 rfl iX12 q1483 rfl (Nat.le_of_ble_eq_true rfl) rfl rfl rfl ?_
      refine wa_iload_n C 1 44 dX12_image_43 rfl rfl ?_
      obtain ⟨g10, hf⟩ := grd_ex hf
      refine wa_iald C 45 0 10 dX12_image_44 rfl rfl rfl (vi_in g10) ?_
      obtain ⟨g11, hf⟩ := grd_ex hf
      obtain ⟨y12, ey12, hf⟩ := bnd_ex hf
      refine wa_iast (ws' := [wM dT a y12]) C 46 0 23 dX12_image_45 rfl rfl rfl (vi_in g11) (by rw [ey12]; rfl) ?_
      obtain ⟨x13, ex13, hf⟩ := bnd_ex hf
      refine wa_iinc (v := x13) (lv' := [(0, .ref (a 0)), (1, .int x13)]) C 1 [1, 0] 49 dX12_image_46 rfl rfl (by rw [ex13]; rfl) (Nat.le_of_ble_eq_true rfl) rfl ?_
      refine wa_goto C 28 dX12_image_49 rfl ?_
      exact ih x13 y12 hf
set_option maxRecDepth 20000 in
theorem c_X12_image {l : Launch} {D : va_G} {dT : Nat → ClassId} {a : Nat → Nat} {v : MS} {res : MS} (hf : f_X12_image v = some res) : CTv l yX12_image cX12_image 2 none ({ frames := 1, cells := 0, slots := 0, locals := 23 } : Room) D dT [.ref (a 0)] ([wM dT a v]) ([wM dT a res]) := by
  refine CTv.of (by decide) (Nat.le_of_ble_eq_true rfl) rfl ?_
  intro p e s m args below meth c A C
  unfold f_X12_image at hf
  refine wa_aload_n C 0 1 dX12_image_0 rfl rfl ?_
  refine wa_iconst (v := 0) C 2 dX12_image_1 rfl rfl ?_
  obtain ⟨y1, ey1, hf⟩ := bnd_ex hf
  refine wa_put (ws' := [wM dT a y1]) C 5 0 0 0 tyX12 dX12_image_2 rfl iX12 tyX12_ok nmX12 q1449 rfl (Nat.le_of_ble_eq_true rfl) rfl rfl rfl rfl rfl (Nat.le_of_ble_eq_true rfl) (by rw [ey1]; rfl) ?_
  refine wa_aload_n C 0 6 dX12_image_5 rfl rfl ?_
  refine wa_iconst (v := 1) C 7 dX12_image_6 rfl rfl ?_
  obtain ⟨y2, ey2, hf⟩ := bnd_ex hf
  refine wa_put (ws' := [wM dT a y2]) C 10 0 0 53 tyX12 dX12_image_7 rfl iX12 tyX12_ok nmX12 q1502 rfl (Nat.le_of_ble_eq_true rfl) rfl rfl rfl rfl rfl (Nat.le_of_ble_eq_true rfl) (by rw [ey2]; rfl) ?_
  refine wa_aload_n C 0 11 dX12_image_10 rfl rfl ?_
  refine wa_aload_n C 0 12 dX12_image_11 rfl rfl ?_
  refine wa_get C 15 0 0 36 dX12_image_12 rfl iX12 q1485 rfl (Nat.le_of_ble_eq_true rfl) rfl rfl rfl ?_
  obtain ⟨y3, ey3, hf⟩ := bnd_ex hf
  refine wa_put (ws' := [wM dT a y3]) C 18 0 0 54 tyX12 dX12_image_15 rfl iX12 tyX12_ok nmX12 q1503 rfl (Nat.le_of_ble_eq_true rfl) rfl rfl rfl rfl rfl (Nat.le_of_ble_eq_true rfl) (by rw [ey3]; rfl) ?_
  refine wa_aload_n C 0 19 dX12_image_18 rfl rfl ?_
  refine wa_aload_n C 0 20 dX12_image_19 rfl rfl ?_
  refine wa_get C 23 0 0 48 dX12_image_20 rfl iX12 q1497 rfl (Nat.le_of_ble_eq_true rfl) rfl rfl rfl ?_
  obtain ⟨y4, ey4, hf⟩ := bnd_ex hf
  refine wa_put (ws' := [wM dT a y4]) C 26 0 0 55 tyX12 dX12_image_23 rfl iX12 tyX12_ok nmX12 q1504 rfl (Nat.le_of_ble_eq_true rfl) rfl rfl rfl rfl rfl (Nat.le_of_ble_eq_true rfl) (by rw [ey4]; rfl) ?_
  refine wa_iconst (v := 0) C 27 dX12_image_26 rfl rfl ?_
  refine wa_istore_n (lv' := [(0, .ref (a 0)), (1, .int (0 : Int32))]) C [1, 0] 28 dX12_image_27 rfl (Nat.le_of_ble_eq_true rfl) rfl ?_
  exact w_X12_image_L28 C FUEL (0 : Int32) y4 hf
def f_X12_restore_L32 : Nat → Int32 → MS → Option (Int32 × MS)
  | 0, _, _ => none
  | n + 1, l1, z0 => (if (86 : Int32) ≤ l1 then (f_X12_copies (z0.2.2 24) (z0.2.2 11) 3440 3440).bind (fun q6 => bnd (z0.1, z0.2.1, sA z0.2.2 11 q6) (fun y7 => (f_X12_copies (y7.2.2 25) (y7.2.2 20) 24 24).bind (fun q8 => bnd (y7.1, y7.2.1, sA y7.2.2 20 q8) (fun y9 => some ((1 : Int32), y9))))) else grd (vi l1 86) (grd (vi l1 172) (bnd (z0.1, z0.2.1, uA z0.2.2 10 (l1).toNatClampNeg (z0.2.2 23 (l1).toNatClampNeg)) (fun y12 => bnd (l1 + 1) (fun x13 => f_X12_restore_L32 n x13 y12)))))
def f_X12_restore (v : MS) : Option (Int32 × MS) := bnd (upd v.1 0 (0 : Int32), v.2) (fun y1 => (if (y1.1 53) = 0 then some ((0 : Int32), y1) else bnd (upd y1.1 36 (y1.1 54), y1.2) (fun y3 => bnd (upd y3.1 48 (y3.1 55), y3.2) (fun y4 => f_X12_restore_L32 FUEL (0 : Int32) y4))))
set_option maxRecDepth 20000 in
theorem w_X12_restore_L32 {p : Program} {l : Launch} {e : Env} {s : State} {m : MethodId} {args : Array Value} {below : List Frame} {meth : Method} {c : Code} {D : va_G} {A : Nat → Prop} {dT : Nat → ClassId} {a : Nat → Nat} {res : Int32 × MS} (C : Cx p s m args meth c cX12_restore 2 RX12 (some .boolean) D A dT) : ∀ (n : Nat) (l1 : Int32) (z0 : MS), f_X12_restore_L32 n l1 z0 = some res → WA p l e ({ frames := 1, cells := 0, slots := 0, locals := 23 } : Room) s m args below meth c (MQ below (QI D dT A ([wM dT a res.2]) res.1) args s 0 0 A) D A 0 0 2 32 ([wM dT a z0]) [(0, .ref (a 0)), (1, .int l1)] [] := by
  intro n
  induction n with
  | zero => intro l1 z0 hf; cases hf
  | succ n ih =>
    intro l1 z0 hf
    unfold f_X12_restore_L32 at hf
    refine wa_iload_n C 1 33 dX12_restore_32 rfl rfl ?_
    refine wa_bipush (v := 86) C 35 dX12_restore_33 rfl rfl ?_
    refine wa_icmp_ge C 56 38 dX12_restore_35 rfl rfl (fun c5 => ?_) (fun c5 => ?_)
    · replace hf := ite_t hf c5
      refine wa_aload_n C 0 57 dX12_restore_56 rfl rfl ?_
      refine wa_aload_n C 0 58 dX12_restore_57 rfl rfl ?_
      refine wa_get C 61 0 0 57 dX12_restore_58 rfl iX12 q1506 rfl (Nat.le_of_ble_eq_true rfl) rfl rfl rfl ?_
      refine wa_aload_n C 0 62 dX12_restore_61 rfl rfl ?_
      refine wa_get C 65 0 0 35 dX12_restore_62 rfl iX12 q1484 rfl (Nat.le_of_ble_eq_true rfl) rfl rfl rfl ?_
      refine wa_open 0 24 rfl rfl ?_
      refine wa_open 0 11 rfl rfl ?_
      obtain ⟨q6, hq6, hf⟩ := bind_ex hf
      obtain ⟨y7, ey7, hf⟩ := bnd_ex hf
      refine wa_callVv (b1 := 0) (q1 := 0) (ci := 12) (ws' := [((wM dT a z0).eraseIdx 24).eraseIdx 11, [(a 24, .inl (dT 0, 3440, .inl (z0.2.2 24)))], [(a 11, .inl (dT 0, 3440, .inl q6))]]) (As := [.ref (a 24), .ref (a 11)]) C 68 dX12_restore_65 rfl kv_X12_270 (c_X12_copies hq6) ⟨rfl, rfl⟩ ⟨Nat.le_of_ble_eq_true rfl, Nat.le_of_ble_eq_true rfl⟩ rfl rfl rfl [1, 2] [0] [0, 1, 2] rfl rfl rfl rfl (by decide) rfl rfl rfl rfl ⟨Nat.zero_le _, Nat.zero_le _⟩ (Nat.le_of_ble_eq_true rfl) ?_
      refine wa_close (ws := [((wM dT a z0).eraseIdx 24).eraseIdx 11, [(a 24, .inl (dT 0, 3440, .inl (z0.2.2 24)))]]) (ws' := [(wM dT a y7).eraseIdx 24, [(a 24, .inl (dT 0, 3440, .inl (z0.2.2 24)))]]) 0 11 ((wM dT a y7).eraseIdx 24) (by rw [ey7]; rfl) (by rw [ey7]; rfl) rfl ?_
      refine wa_close (ws := [(wM dT a y7).eraseIdx 24]) (ws' := [wM dT a y7]) 0 24 (wM dT a y7) (by rw [ey7]; rfl) (by rw [ey7]; rfl) rfl ?_
      refine wa_aload_n C 0 69 dX12_restore_68 rfl rfl ?_
      refine wa_aload_n C 0 70 dX12_restore_69 rfl rfl ?_
      refine wa_get C 73 0 0 58 dX12_restore_70 rfl iX12 q1507 rfl (Nat.le_of_ble_eq_true rfl) rfl rfl rfl ?_
      refine wa_aload_n C 0 74 dX12_restore_73 rfl rfl ?_
      refine wa_get C 77 0 0 49 dX12_restore_74 rfl iX12 q1498 rfl (Nat.le_of_ble_eq_true rfl) rfl rfl rfl ?_
      refine wa_open 0 25 rfl rfl ?_
      refine wa_open 0 20 rfl rfl ?_
      obtain ⟨q8, hq8, hf⟩ := bind_ex hf
      obtain ⟨y9, ey9, hf⟩ := bnd_ex hf
      refine wa_callVv (b1 := 0) (q1 := 0) (ci := 12) (ws' := [((wM dT a y7).eraseIdx 25).eraseIdx 20, [(a 25, .inl (dT 0, 24, .inl (y7.2.2 25)))], [(a 20, .inl (dT 0, 24, .inl q8))]]) (As := [.ref (a 25), .ref (a 20)]) C 80 dX12_restore_77 rfl kv_X12_270 (c_X12_copies hq8) ⟨rfl, rfl⟩ ⟨Nat.le_of_ble_eq_true rfl, Nat.le_of_ble_eq_true rfl⟩ rfl rfl rfl [1, 2] [0] [0, 1, 2] rfl rfl rfl rfl (by decide) rfl rfl rfl rfl ⟨Nat.zero_le _, Nat.zero_le _⟩ (Nat.le_of_ble_eq_true rfl) ?_
      refine wa_close (ws := [((wM dT a y7).eraseIdx 25).eraseIdx 20, [(a 25, .inl (dT 0, 24, .inl (y7.2.2 25)))]]) (ws' := [(wM dT a y9).eraseIdx 25, [(a 25, .inl (dT 0, 24, .inl (y7.2.2 25)))]]) 0 20 ((wM dT a y9).eraseIdx 25) (by rw [ey9]; rfl) (by rw [ey9]; rfl) rfl ?_
      refine wa_close (ws := [(wM dT a y9).eraseIdx 25]) (ws' := [wM dT a y9]) 0 25 (wM dT a y9) (by rw [ey9]; rfl) (by rw [ey9]; rfl) rfl ?_
      refine wa_iconst (v := 1) C 81 dX12_restore_80 rfl rfl ?_
      cases hf
      exact wa_zret C dX12_restore_81 rfl rfl rfl
    · replace hf := ite_f hf c5
      refine wa_aload_n C 0 39 dX12_restore_38 rfl rfl ?_
      refine wa_get C 42 0 0 34 dX12_restore_39 rfl iX12 q1483 rfl (Nat.le_of_ble_eq_true rfl) rfl rfl rfl ?_
      refine wa_iload_n C 1 43 dX12_restore_42 rfl rfl ?_
      refine wa_aload_n C 0 44 dX12_restore_43 rfl rfl ?_
      refine wa_get C 47 0 0 56 dX12_restore_44 rfl iX12 q1505 rfl (Nat.le_of_ble_eq_true rfl) rfl rfl rfl ?_
      refine wa_iload_n C 1 48 dX12_restore_47 rfl rfl ?_
      obtain ⟨g10, hf⟩ := grd_ex hf
      refine wa_iald C 49 0 23 dX12_restore_48 rfl rfl rfl (vi_in g10) ?_
      obtain ⟨g11, hf⟩ := grd_ex hf
      obtain ⟨y12, ey12, hf⟩ := bnd_ex hf
      refine wa_iast (ws' := [wM dT a y12]) C 50 0 10 dX12_restore_49 rfl rfl rfl (vi_in g11) (by rw [ey12]; rfl) ?_
      obtain ⟨x13, ex13, hf⟩ := bnd_ex hf
      refine wa_iinc (v := x13) (lv' := [(0, .ref (a 0)), (1, .int x13)]) C 1 [1, 0] 53 dX12_restore_50 rfl rfl (by rw [ex13]; rfl) (Nat.le_of_ble_eq_true rfl) rfl ?_
      refine wa_goto C 32 dX12_restore_53 rfl ?_
      exact ih x13 y12 hf
set_option maxRecDepth 20000 in
theorem c_X12_restore {l : Launch} {D : va_G} {dT : Nat → ClassId} {a : Nat → Nat} {v : MS} {res : Int32 × MS} (hf : f_X12_restore v = some res) : CTi l yX12_restore cX12_restore 2 (some .boolean) ({ frames := 1, cells := 0, slots := 0, locals := 23 } : Room) D dT [.ref (a 0)] ([wM dT a v]) ([wM dT a res.2]) res.1 := by
  refine CTi.of (by decide) (Nat.le_of_ble_eq_true rfl) rfl ?_
  intro p e s m args below meth c A C
  unfold f_X12_restore at hf
  refine wa_aload_n C 0 1 dX12_restore_0 rfl rfl ?_
  refine wa_iconst (v := 0) C 2 dX12_restore_1 rfl rfl ?_
  obtain ⟨y1, ey1, hf⟩ := bnd_ex hf
  refine wa_put (ws' := [wM dT a y1]) C 5 0 0 0 tyX12 dX12_restore_2 rfl iX12 tyX12_ok nmX12 q1449 rfl (Nat.le_of_ble_eq_true rfl) rfl rfl rfl rfl rfl (Nat.le_of_ble_eq_true rfl) (by rw [ey1]; rfl) ?_
  refine wa_aload_n C 0 6 dX12_restore_5 rfl rfl ?_
  refine wa_get C 9 0 0 53 dX12_restore_6 rfl iX12 q1502 rfl (Nat.le_of_ble_eq_true rfl) rfl rfl rfl ?_
  refine wa_if_ne C 14 12 dX12_restore_9 rfl rfl (fun c2 => ?_) (fun c2 => ?_)
  · replace hf := ite_f hf c2
    refine wa_aload_n C 0 15 dX12_restore_14 rfl rfl ?_
    refine wa_aload_n C 0 16 dX12_restore_15 rfl rfl ?_
    refine wa_get C 19 0 0 54 dX12_restore_16 rfl iX12 q1503 rfl (Nat.le_of_ble_eq_true rfl) rfl rfl rfl ?_
    obtain ⟨y3, ey3, hf⟩ := bnd_ex hf
    refine wa_put (ws' := [wM dT a y3]) C 22 0 0 36 tyX12 dX12_restore_19 rfl iX12 tyX12_ok nmX12 q1485 rfl (Nat.le_of_ble_eq_true rfl) rfl rfl rfl rfl rfl (Nat.le_of_ble_eq_true rfl) (by rw [ey3]; rfl) ?_
    refine wa_aload_n C 0 23 dX12_restore_22 rfl rfl ?_
    refine wa_aload_n C 0 24 dX12_restore_23 rfl rfl ?_
    refine wa_get C 27 0 0 55 dX12_restore_24 rfl iX12 q1504 rfl (Nat.le_of_ble_eq_true rfl) rfl rfl rfl ?_
    obtain ⟨y4, ey4, hf⟩ := bnd_ex hf
    refine wa_put (ws' := [wM dT a y4]) C 30 0 0 48 tyX12 dX12_restore_27 rfl iX12 tyX12_ok nmX12 q1497 rfl (Nat.le_of_ble_eq_true rfl) rfl rfl rfl rfl rfl (Nat.le_of_ble_eq_true rfl) (by rw [ey4]; rfl) ?_
    refine wa_iconst (v := 0) C 31 dX12_restore_30 rfl rfl ?_
    refine wa_istore_n (lv' := [(0, .ref (a 0)), (1, .int (0 : Int32))]) C [1, 0] 32 dX12_restore_31 rfl (Nat.le_of_ble_eq_true rfl) rfl ?_
    exact w_X12_restore_L32 C FUEL (0 : Int32) y4 hf
  · replace hf := ite_t hf c2
    refine wa_iconst (v := 0) C 13 dX12_restore_12 rfl rfl ?_
    cases hf
    exact wa_zret C dX12_restore_13 rfl rfl rfl
