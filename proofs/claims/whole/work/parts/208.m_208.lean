def f_X12_forget (v : MS) : Option (MS) := bnd (upd v.1 0 (0 : Int32), v.2) (fun y1 => bnd (upd y1.1 48 (0 : Int32), y1.2) (fun y2 => some (y2)))
set_option maxRecDepth 20000 in
theorem c_X12_forget {l : Launch} {D : va_G} {dT : Nat → ClassId} {a : Nat → Nat} {v : MS} {res : MS} (hf : f_X12_forget v = some res) : CTv l yX12_forget cX12_forget 1 none ({ frames := 0, cells := 0, slots := 0, locals := 0 } : Room) D dT [.ref (a 0)] ([wM dT a v]) ([wM dT a res]) := by
  refine CTv.of (by decide) (Nat.le_of_ble_eq_true rfl) rfl ?_
  intro p e s m args below meth c A C
  unfold f_X12_forget at hf
  refine wa_aload_n C 0 1 dX12_forget_0 rfl rfl ?_
  refine wa_iconst (v := 0) C 2 dX12_forget_1 rfl rfl ?_
  obtain ⟨y1, ey1, hf⟩ := bnd_ex hf
  refine wa_put (ws' := [wM dT a y1]) C 5 0 0 0 tyX12 dX12_forget_2 rfl iX12 tyX12_ok nmX12 q1449 rfl (Nat.le_of_ble_eq_true rfl) rfl rfl rfl rfl rfl (Nat.le_of_ble_eq_true rfl) (by rw [ey1]; rfl) ?_
  refine wa_aload_n C 0 6 dX12_forget_5 rfl rfl ?_
  refine wa_iconst (v := 0) C 7 dX12_forget_6 rfl rfl ?_
  obtain ⟨y2, ey2, hf⟩ := bnd_ex hf
  refine wa_put (ws' := [wM dT a y2]) C 10 0 0 48 tyX12 dX12_forget_7 rfl iX12 tyX12_ok nmX12 q1497 rfl (Nat.le_of_ble_eq_true rfl) rfl rfl rfl rfl rfl (Nat.le_of_ble_eq_true rfl) (by rw [ey2]; rfl) ?_
  cases hf
  exact wa_vret C dX12_forget_10 rfl
def f_X12_isSeen_J117 (k2 : Int32 → MS → Option (Int32 × MS)) (l1 : Int32) (z0 : MS) : Option (Int32 × MS) := (f_X12_eveningGoes z0 (86 : Int32)).bind (fun q4 => bnd (l1 + 1) (fun x5 => k2 x5 q4))
def f_X12_isSeen_L82 (k2 : Int32 → MS → Option (Int32 × MS)) (l1 : Int32) : Nat → Int32 → MS → Option (Int32 × MS)
  | 0, _, _ => none
  | n + 1, l2, z0 => (if (z0.1 1) ≤ l2 then f_X12_isSeen_J117 (k2) l1 z0 else grd (vi ((88 : Int32) + l2) 172) ((f_X12_sizeOf z0 (86 : Int32) (z0.2.2 10 (((88 : Int32) + l2)).toNatClampNeg)).bind (fun q8 => grd (vi l2 12) (bnd (z0.1, z0.2.1, uA z0.2.2 21 (l2).toNatClampNeg q8) (fun y10 => bnd (l2 + 1) (fun x11 => f_X12_isSeen_L82 k2 l1 n x11 y10))))))
def f_X12_isSeen_L10 (k2 : Int32 → MS → Option (Int32 × MS)) (l1 : Int32) (z0 : MS) : Nat → Int32 → Option (Int32 × MS)
  | 0, _ => none
  | n + 1, l2 => (if (z0.1 48) ≤ l2 then (if l1 = (5 : Int32) then f_X12_isSeen_L82 (k2) l1 FUEL (0 : Int32) z0 else f_X12_isSeen_J117 (k2) l1 z0) else grd (vi (((3 : Int32) * l2) + (1 : Int32)) 24) ((if (z0.2.2 20 ((((3 : Int32) * l2) + (1 : Int32))).toNatClampNeg) = l1 then grd (vi ((3 : Int32) * l2) 24) (grd (vi ((88 : Int32) + (z0.2.2 20 (((3 : Int32) * l2)).toNatClampNeg)) 172) ((f_X12_sizeOf z0 (86 : Int32) (z0.2.2 10 (((88 : Int32) + (z0.2.2 20 (((3 : Int32) * l2)).toNatClampNeg))).toNatClampNeg)).bind (fun q17 => grd (vi (((3 : Int32) * l2) + (2 : Int32)) 24) ((if q17 = (z0.2.2 20 ((((3 : Int32) * l2) + (2 : Int32))).toNatClampNeg) then bnd (l2 + 1) (fun x20 => f_X12_isSeen_L10 k2 l1 z0 n x20) else some ((0 : Int32), z0)))))) else bnd (l2 + 1) (fun x14 => f_X12_isSeen_L10 k2 l1 z0 n x14))))
def f_X12_isSeen_L2 : Nat → Int32 → MS → Option (Int32 × MS)
  | 0, _, _ => none
  | n + 1, l1, z0 => (if (20 : Int32) < l1 then some ((1 : Int32), z0) else f_X12_isSeen_L10 (f_X12_isSeen_L2 n) l1 z0 FUEL (0 : Int32))
def f_X12_isSeen (v : MS) : Option (Int32 × MS) := f_X12_isSeen_L2 FUEL (0 : Int32) v
set_option maxRecDepth 20000 in
theorem w_X12_isSeen_J117 {p : Program} {l : Launch} {e : Env} {s : State} {m : MethodId} {args : Array Value} {below : List Frame} {meth : Method} {c : Code} {D : va_G} {A : Nat → Prop} {dT : Nat → ClassId} {a : Nat → Nat} {res : Int32 × MS} (C : Cx p s m args meth c cX12_isSeen 3 RX12 (some .boolean) D A dT) {k2 : Int32 → MS → Option (Int32 × MS)} (hk2 : ∀ (l1 : Int32) (z0 : MS), k2 l1 z0 = some res → WA p l e ({ frames := 5, cells := 0, slots := 0, locals := 120 } : Room) s m args below meth c (MQ below (QI D dT A ([wM dT a res.2]) res.1) args s 0 0 A) D A 0 0 3 2 ([wM dT a z0]) [(0, .ref (a 0)), (1, .int l1)] []) : ∀ (l1 : Int32) (z0 : MS), f_X12_isSeen_J117 k2 l1 z0 = some res → WA p l e ({ frames := 5, cells := 0, slots := 0, locals := 120 } : Room) s m args below meth c (MQ below (QI D dT A ([wM dT a res.2]) res.1) args s 0 0 A) D A 0 0 3 117 ([wM dT a z0]) [(0, .ref (a 0)), (1, .int l1)] [] := by
  intro l1 z0 hf
  unfold f_X12_isSeen_J117 at hf
  refine wa_aload_n C 0 118 dX12_isSeen_117 rfl rfl ?_
  refine wa_bipush (v := 86) C 120 dX12_isSeen_118 rfl rfl ?_
  obtain ⟨q4, hq4, hf⟩ := bind_ex hf
  refine wa_callVAv (b1 := 0) (q1 := 0) (ci := 12) (As := [.int (86 : Int32)]) C 123 dX12_isSeen_120 rfl kv_X12_334 (c_X12_eveningGoes hq4) ⟨rfl, rfl⟩ ⟨Nat.le_of_ble_eq_true rfl, Nat.le_of_ble_eq_true rfl⟩ rfl rfl rfl rfl rfl ⟨Nat.zero_le _, Nat.zero_le _⟩ (Nat.le_of_ble_eq_true rfl) ?_
  obtain ⟨x5, ex5, hf⟩ := bnd_ex hf
  refine wa_iinc (v := x5) (lv' := [(0, .ref (a 0)), (1, .int x5)]) C 1 [1, 0] 126 dX12_isSeen_123 rfl rfl (by rw [ex5]; rfl) (Nat.le_of_ble_eq_true rfl) rfl ?_
  refine wa_goto C 2 dX12_isSeen_126 rfl ?_
  exact hk2 x5 q4 hf
set_option maxRecDepth 20000 in
theorem w_X12_isSeen_L82 {p : Program} {l : Launch} {e : Env} {s : State} {m : MethodId} {args : Array Value} {below : List Frame} {meth : Method} {c : Code} {D : va_G} {A : Nat → Prop} {dT : Nat → ClassId} {a : Nat → Nat} {res : Int32 × MS} {l1 : Int32} (C : Cx p s m args meth c cX12_isSeen 3 RX12 (some .boolean) D A dT) {k2 : Int32 → MS → Option (Int32 × MS)} (hk2 : ∀ (l1 : Int32) (z0 : MS), k2 l1 z0 = some res → WA p l e ({ frames := 5, cells := 0, slots := 0, locals := 120 } : Room) s m args below meth c (MQ below (QI D dT A ([wM dT a res.2]) res.1) args s 0 0 A) D A 0 0 3 2 ([wM dT a z0]) [(0, .ref (a 0)), (1, .int l1)] []) : ∀ (n : Nat) (l2 : Int32) (z0 : MS), f_X12_isSeen_L82 k2 l1 n l2 z0 = some res → WA p l e ({ frames := 5, cells := 0, slots := 0, locals := 120 } : Room) s m args below meth c (MQ below (QI D dT A ([wM dT a res.2]) res.1) args s 0 0 A) D A 0 0 3 82 ([wM dT a z0]) [(0, .ref (a 0)), (1, .int l1), (2, .int l2)] [] := by
  intro n
  induction n with
  | zero => intro l2 z0 hf; cases hf
  | succ n ih =>
    intro l2 z0 hf
    unfold f_X12_isSeen_L82 at hf
    refine wa_iload_n C 2 83 dX12_isSeen_82 rfl rfl ?_
    refine wa_aload_n C 0 84 dX12_isSeen_83 rfl rfl ?_
    refine wa_get C 87 0 0 1 dX12_isSeen_84 rfl iX12 q1450 rfl (Nat.le_of_ble_eq_true rfl) rfl rfl rfl ?_
    refine wa_icmp_ge C 117 90 dX12_isSeen_87 rfl rfl (fun c6 => ?_) (fun c6 => ?_)
    · replace hf := ite_t hf c6
      refine wa_lv (lv' := [(0, .ref (a 0)), (1, .int l1)]) [0, 1] rfl ?_
      exact w_X12_isSeen_J117 C hk2 l1 z0 hf
    · replace hf := ite_f hf c6
      refine wa_aload_n C 0 91 dX12_isSeen_90 rfl rfl ?_
      refine wa_get C 94 0 0 50 dX12_isSeen_91 rfl iX12 q1499 rfl (Nat.le_of_ble_eq_true rfl) rfl rfl rfl ?_
      refine wa_iload_n C 2 95 dX12_isSeen_94 rfl rfl ?_
      refine wa_aload_n C 0 96 dX12_isSeen_95 rfl rfl ?_
      refine wa_bipush (v := 86) C 98 dX12_isSeen_96 rfl rfl ?_
      refine wa_aload_n C 0 99 dX12_isSeen_98 rfl rfl ?_
      refine wa_get C 102 0 0 34 dX12_isSeen_99 rfl iX12 q1483 rfl (Nat.le_of_ble_eq_true rfl) rfl rfl rfl ?_
      refine wa_bipush (v := 88) C 104 dX12_isSeen_102 rfl rfl ?_
      refine wa_iload_n C 2 105 dX12_isSeen_104 rfl rfl ?_
      refine wa_iadd C 106 dX12_isSeen_105 rfl ?_
      obtain ⟨g7, hf⟩ := grd_ex hf
      refine wa_iald C 107 0 10 dX12_isSeen_106 rfl rfl rfl (vi_in g7) ?_
      obtain ⟨q8, hq8, hf⟩ := bind_ex hf
      refine wa_callVAi (b1 := 0) (q1 := 0) (ci := 12) (As := [.int (86 : Int32), .int (z0.2.2 10 (((88 : Int32) + l2)).toNatClampNeg)]) C 110 dX12_isSeen_107 rfl kv_X12_297 (c_X12_sizeOf hq8) ⟨rfl, rfl⟩ ⟨Nat.le_of_ble_eq_true rfl, Nat.le_of_ble_eq_true rfl⟩ rfl rfl rfl rfl rfl ⟨Nat.zero_le _, Nat.zero_le _⟩ (Nat.le_of_ble_eq_true rfl) ?_
      obtain ⟨g9, hf⟩ := grd_ex hf
      obtain ⟨y10, ey10, hf⟩ := bnd_ex hf
      refine wa_iast (ws' := [wM dT a y10]) C 111 0 21 dX12_isSeen_110 rfl rfl rfl (vi_in g9) (by rw [ey10]; rfl) ?_
      obtain ⟨x11, ex11, hf⟩ := bnd_ex hf
      refine wa_iinc (v := x11) (lv' := [(0, .ref (a 0)), (1, .int l1), (2, .int x11)]) C 2 [1, 2, 0] 114 dX12_isSeen_111 rfl rfl (by rw [ex11]; rfl) (Nat.le_of_ble_eq_true rfl) rfl ?_
      refine wa_goto C 82 dX12_isSeen_114 rfl ?_
      exact ih x11 y10 hf
set_option maxRecDepth 20000 in
theorem w_X12_isSeen_L10 {p : Program} {l : Launch} {e : Env} {s : State} {m : MethodId} {args : Array Value} {below : List Frame} {meth : Method} {c : Code} {D : va_G} {A : Nat → Prop} {dT : Nat → ClassId} {a : Nat → Nat} {res : Int32 × MS} {l1 : Int32} {z0 : MS} (C : Cx p s m args meth c cX12_isSeen 3 RX12 (some .boolean) D A dT) {k2 : Int32 → MS → Option (Int32 × MS)} (hk2 : ∀ (l1 : Int32) (z0 : MS), k2 l1 z0 = some res → WA p l e ({ frames := 5, cells := 0, slots := 0, locals := 120 } : Room) s m args below meth c (MQ below (QI D dT A ([wM dT a res.2]) res.1) args s 0 0 A) D A 0 0 3 2 ([wM dT a z0]) [(0, .ref (a 0)), (1, .int l1)] []) : ∀ (n : Nat) (l2 : Int32), f_X12_isSeen_L10 k2 l1 z0 n l2 = some res → WA p l e ({ frames := 5, cells := 0, slots := 0, locals := 120 } : Room) s m args below meth c (MQ below (QI D dT A ([wM dT a res.2]) res.1) args s 0 0 A) D A 0 0 3 10 ([wM dT a z0]) [(0, .ref (a 0)), (1, .int l1), (2, .int l2)] [] := by
  intro n
  induction n with
  | zero => intro l2 hf; cases hf
  | succ n ih =>
    intro l2 hf
    unfold f_X12_isSeen_L10 at hf
    refine wa_iload_n C 2 11 dX12_isSeen_10 rfl rfl ?_
    refine wa_aload_n C 0 12 dX12_isSeen_11 rfl rfl ?_
    refine wa_get C 15 0 0 48 dX12_isSeen_12 rfl iX12 q1497 rfl (Nat.le_of_ble_eq_true rfl) rfl rfl rfl ?_
    refine wa_icmp_ge C 75 18 dX12_isSeen_15 rfl rfl (fun c2 => ?_) (fun c2 => ?_)
    · replace hf := ite_t hf c2
      refine wa_iload_n C 1 76 dX12_isSeen_75 rfl rfl ?_
      refine wa_iconst (v := 5) C 77 dX12_isSeen_76 rfl rfl ?_
      refine wa_icmp_ne C 117 80 dX12_isSeen_77 rfl rfl (fun c3 => ?_) (fun c3 => ?_)
      · replace hf := ite_f hf c3
        refine wa_lv (lv' := [(0, .ref (a 0)), (1, .int l1)]) [0, 1] rfl ?_
        exact w_X12_isSeen_J117 C hk2 l1 z0 hf
      · replace hf := ite_t hf c3
        refine wa_iconst (v := 0) C 81 dX12_isSeen_80 rfl rfl ?_
        refine wa_istore_n (lv' := [(0, .ref (a 0)), (1, .int l1), (2, .int (0 : Int32))]) C [1, 2, 0] 82 dX12_isSeen_81 rfl (Nat.le_of_ble_eq_true rfl) rfl ?_
        exact w_X12_isSeen_L82 C hk2 FUEL (0 : Int32) z0 hf
    · replace hf := ite_f hf c2
      refine wa_aload_n C 0 19 dX12_isSeen_18 rfl rfl ?_
      refine wa_get C 22 0 0 49 dX12_isSeen_19 rfl iX12 q1498 rfl (Nat.le_of_ble_eq_true rfl) rfl rfl rfl ?_
      refine wa_iconst (v := 3) C 23 dX12_isSeen_22 rfl rfl ?_
      refine wa_iload_n C 2 24 dX12_isSeen_23 rfl rfl ?_
      refine wa_imul C 25 dX12_isSeen_24 rfl ?_
      refine wa_iconst (v := 1) C 26 dX12_isSeen_25 rfl rfl ?_
      refine wa_iadd C 27 dX12_isSeen_26 rfl ?_
      obtain ⟨g12, hf⟩ := grd_ex hf
      refine wa_iald C 28 0 20 dX12_isSeen_27 rfl rfl rfl (vi_in g12) ?_
      refine wa_iload_n C 1 29 dX12_isSeen_28 rfl rfl ?_
      refine wa_icmp_ne C 69 32 dX12_isSeen_29 rfl rfl (fun c13 => ?_) (fun c13 => ?_)
      · replace hf := ite_f hf c13
        obtain ⟨x14, ex14, hf⟩ := bnd_ex hf
        refine wa_iinc (v := x14) (lv' := [(0, .ref (a 0)), (1, .int l1), (2, .int x14)]) C 2 [1, 2, 0] 72 dX12_isSeen_69 rfl rfl (by rw [ex14]; rfl) (Nat.le_of_ble_eq_true rfl) rfl ?_
        refine wa_goto C 10 dX12_isSeen_72 rfl ?_
        exact ih x14 hf
      · replace hf := ite_t hf c13
        refine wa_aload_n C 0 33 dX12_isSeen_32 rfl rfl ?_
        refine wa_bipush (v := 86) C 35 dX12_isSeen_33 rfl rfl ?_
        refine wa_aload_n C 0 36 dX12_isSeen_35 rfl rfl ?_
        refine wa_get C 39 0 0 34 dX12_isSeen_36 rfl iX12 q1483 rfl (Nat.le_of_ble_eq_true rfl) rfl rfl rfl ?_
        refine wa_bipush (v := 88) C 41 dX12_isSeen_39 rfl rfl ?_
        refine wa_aload_n C 0 42 dX12_isSeen_41 rfl rfl ?_
        refine wa_get C 45 0 0 49 dX12_isSeen_42 rfl iX12 q1498 rfl (Nat.le_of_ble_eq_true rfl) rfl rfl rfl ?_
        refine wa_iconst (v := 3) C 46 dX12_isSeen_45 rfl rfl ?_
        refine wa_iload_n C 2 47 dX12_isSeen_46 rfl rfl ?_
        refine wa_imul C 48 dX12_isSeen_47 rfl ?_
        obtain ⟨g15, hf⟩ := grd_ex hf
        refine wa_iald C 49 0 20 dX12_isSeen_48 rfl rfl rfl (vi_in g15) ?_
        refine wa_iadd C 50 dX12_isSeen_49 rfl ?_
        obtain ⟨g16, hf⟩ := grd_ex hf
        refine wa_iald C 51 0 10 dX12_isSeen_50 rfl rfl rfl (vi_in g16) ?_
        obtain ⟨q17, hq17, hf⟩ := bind_ex hf
        refine wa_callVAi (b1 := 0) (q1 := 0) (ci := 12) (As := [.int (86 : Int32), .int (z0.2.2 10 (((88 : Int32) + (z0.2.2 20 (((3 : Int32) * l2)).toNatClampNeg))).toNatClampNeg)]) C 54 dX12_isSeen_51 rfl kv_X12_297 (c_X12_sizeOf hq17) ⟨rfl, rfl⟩ ⟨Nat.le_of_ble_eq_true rfl, Nat.le_of_ble_eq_true rfl⟩ rfl rfl rfl rfl rfl ⟨Nat.zero_le _, Nat.zero_le _⟩ (Nat.le_of_ble_eq_true rfl) ?_
        refine wa_aload_n C 0 55 dX12_isSeen_54 rfl rfl ?_
        refine wa_get C 58 0 0 49 dX12_isSeen_55 rfl iX12 q1498 rfl (Nat.le_of_ble_eq_true rfl) rfl rfl rfl ?_
        refine wa_iconst (v := 3) C 59 dX12_isSeen_58 rfl rfl ?_
        refine wa_iload_n C 2 60 dX12_isSeen_59 rfl rfl ?_
        refine wa_imul C 61 dX12_isSeen_60 rfl ?_
        refine wa_iconst (v := 2) C 62 dX12_isSeen_61 rfl rfl ?_
        refine wa_iadd C 63 dX12_isSeen_62 rfl ?_
        obtain ⟨g18, hf⟩ := grd_ex hf
        refine wa_iald C 64 0 20 dX12_isSeen_63 rfl rfl rfl (vi_in g18) ?_
        refine wa_icmp_eq C 69 67 dX12_isSeen_64 rfl rfl (fun c19 => ?_) (fun c19 => ?_)
        · replace hf := ite_t hf c19
          obtain ⟨x20, ex20, hf⟩ := bnd_ex hf
          refine wa_iinc (v := x20) (lv' := [(0, .ref (a 0)), (1, .int l1), (2, .int x20)]) C 2 [1, 2, 0] 72 dX12_isSeen_69 rfl rfl (by rw [ex20]; rfl) (Nat.le_of_ble_eq_true rfl) rfl ?_
          refine wa_goto C 10 dX12_isSeen_72 rfl ?_
          exact ih x20 hf
        · replace hf := ite_f hf c19
          refine wa_iconst (v := 0) C 68 dX12_isSeen_67 rfl rfl ?_
          cases hf
          exact wa_zret C dX12_isSeen_68 rfl rfl rfl
set_option maxRecDepth 20000 in
theorem w_X12_isSeen_L2 {p : Program} {l : Launch} {e : Env} {s : State} {m : MethodId} {args : Array Value} {below : List Frame} {meth : Method} {c : Code} {D : va_G} {A : Nat → Prop} {dT : Nat → ClassId} {a : Nat → Nat} {res : Int32 × MS} (C : Cx p s m args meth c cX12_isSeen 3 RX12 (some .boolean) D A dT) : ∀ (n : Nat) (l1 : Int32) (z0 : MS), f_X12_isSeen_L2 n l1 z0 = some res → WA p l e ({ frames := 5, cells := 0, slots := 0, locals := 120 } : Room) s m args below meth c (MQ below (QI D dT A ([wM dT a res.2]) res.1) args s 0 0 A) D A 0 0 3 2 ([wM dT a z0]) [(0, .ref (a 0)), (1, .int l1)] [] := by
  intro n
  induction n with
  | zero => intro l1 z0 hf; cases hf
  | succ n ih =>
    intro l1 z0 hf
    unfold f_X12_isSeen_L2 at hf
    refine wa_iload_n C 1 3 dX12_isSeen_2 rfl rfl ?_
    refine wa_bipush (v := 20) C 5 dX12_isSeen_3 rfl rfl ?_
    refine wa_icmp_gt C 129 8 dX12_isSeen_5 rfl rfl (fun c1 => ?_) (fun c1 => ?_)
    · replace hf := ite_t hf c1
      refine wa_iconst (v := 1) C 130 dX12_isSeen_129 rfl rfl ?_
      cases hf
      exact wa_zret C dX12_isSeen_130 rfl rfl rfl
    · replace hf := ite_f hf c1
      refine wa_iconst (v := 0) C 9 dX12_isSeen_8 rfl rfl ?_
      refine wa_istore_n (lv' := [(0, .ref (a 0)), (1, .int l1), (2, .int (0 : Int32))]) C [1, 2, 0] 10 dX12_isSeen_9 rfl (Nat.le_of_ble_eq_true rfl) rfl ?_
      exact w_X12_isSeen_L10 C ih FUEL (0 : Int32) hf
set_option maxRecDepth 20000 in
theorem c_X12_isSeen {l : Launch} {D : va_G} {dT : Nat → ClassId} {a : Nat → Nat} {v : MS} {res : Int32 × MS} (hf : f_X12_isSeen v = some res) : CTi l yX12_isSeen cX12_isSeen 3 (some .boolean) ({ frames := 5, cells := 0, slots := 0, locals := 120 } : Room) D dT [.ref (a 0)] ([wM dT a v]) ([wM dT a res.2]) res.1 := by
  refine CTi.of (by decide) (Nat.le_of_ble_eq_true rfl) rfl ?_
  intro p e s m args below meth c A C
  unfold f_X12_isSeen at hf
  refine wa_iconst (v := 0) C 1 dX12_isSeen_0 rfl rfl ?_
  refine wa_istore_n (lv' := [(0, .ref (a 0)), (1, .int (0 : Int32))]) C [1, 0] 2 dX12_isSeen_1 rfl (Nat.le_of_ble_eq_true rfl) rfl ?_
  exact w_X12_isSeen_L2 C FUEL (0 : Int32) v hf
theorem kv_X12_445 : KV RX12 445 yX12_isSeen cX12_isSeen 3 (some .boolean) 0 := KV.mk q2077 q2079 qs115 q13 q2080 ⟨by decide, by decide, by decide +kernel⟩
def f_X12_isGuess (v : MS) (p0 : Int32) : Option (Int32 × MS) := bnd (p0 / (10 : Int32)) (fun x1 => grd (vi ((50 : Int32) + x1) 172) ((if (v.2.2 10 (((50 : Int32) + x1)).toNatClampNeg) = (p0 - p0 / (10 : Int32) * (10 : Int32)) then some ((0 : Int32), v) else (f_X12_tries v).bind (fun q4 => grd (vi ((136 : Int32) + x1) 172) (bnd (q4.1, q4.2.1, uA q4.2.2 10 (((136 : Int32) + x1)).toNatClampNeg (p0 - p0 / (10 : Int32) * (10 : Int32))) (fun y6 => (f_X12_isSeen y6).bind (fun q7 => grd (bz q7.1) (some (q7.1, q7.2)))))))))
set_option maxRecDepth 20000 in
theorem c_X12_isGuess {l : Launch} {D : va_G} {dT : Nat → ClassId} {a : Nat → Nat} {v : MS} {p0 : Int32} {res : Int32 × MS} (hf : f_X12_isGuess v p0 = some res) : CTi l yX12_isGuess cX12_isGuess 3 (some .boolean) ({ frames := 6, cells := 0, slots := 0, locals := 142 } : Room) D dT [.ref (a 0), .int p0] ([wM dT a v]) ([wM dT a res.2]) res.1 := by
  refine CTi.of (by decide) (Nat.le_of_ble_eq_true rfl) rfl ?_
  intro p e s m args below meth c A C
  unfold f_X12_isGuess at hf
  refine wa_iload_n C 1 1 dX12_isGuess_0 rfl rfl ?_
  refine wa_bipush (v := 10) C 3 dX12_isGuess_1 rfl rfl ?_
  refine wa_idiv C 4 dX12_isGuess_3 rfl (by decide) ?_
  obtain ⟨x1, ex1, hf⟩ := bnd_ex hf
  refine wa_topi ex1 ?_
  refine wa_istore_n (lv' := [(0, .ref (a 0)), (1, .int p0), (2, .int x1)]) C [1, 2, 0] 5 dX12_isGuess_4 rfl (Nat.le_of_ble_eq_true rfl) rfl ?_
  refine wa_aload_n C 0 6 dX12_isGuess_5 rfl rfl ?_
  refine wa_get C 9 0 0 34 dX12_isGuess_6 rfl iX12 q1483 rfl (Nat.le_of_ble_eq_true rfl) rfl rfl rfl ?_
  refine wa_bipush (v := 50) C 11 dX12_isGuess_9 rfl rfl ?_
  refine wa_iload_n C 2 12 dX12_isGuess_11 rfl rfl ?_
  refine wa_iadd C 13 dX12_isGuess_12 rfl ?_
  obtain ⟨g2, hf⟩ := grd_ex hf
  refine wa_iald C 14 0 10 dX12_isGuess_13 rfl rfl rfl (vi_in g2) ?_
  refine wa_iload_n C 1 15 dX12_isGuess_14 rfl rfl ?_
  refine wa_bipush (v := 10) C 17 dX12_isGuess_15 rfl rfl ?_
  refine wa_irem C 18 dX12_isGuess_17 rfl (by decide) ?_
  refine wa_icmp_ne C 23 21 dX12_isGuess_18 rfl rfl (fun c3 => ?_) (fun c3 => ?_)
  · replace hf := ite_f hf c3
    refine wa_aload_n C 0 24 dX12_isGuess_23 rfl rfl ?_
    obtain ⟨q4, hq4, hf⟩ := bind_ex hf
    refine wa_callVAv (b1 := 0) (q1 := 0) (ci := 12) (As := []) C 27 dX12_isGuess_24 rfl kv_X12_337 (c_X12_tries hq4) ⟨rfl, rfl⟩ ⟨Nat.le_of_ble_eq_true rfl, Nat.le_of_ble_eq_true rfl⟩ rfl rfl rfl rfl rfl ⟨Nat.zero_le _, Nat.zero_le _⟩ (Nat.le_of_ble_eq_true rfl) ?_
    refine wa_aload_n C 0 28 dX12_isGuess_27 rfl rfl ?_
    refine wa_get C 31 0 0 34 dX12_isGuess_28 rfl iX12 q1483 rfl (Nat.le_of_ble_eq_true rfl) rfl rfl rfl ?_
    refine wa_sipush (v := 136) C 34 dX12_isGuess_31 rfl rfl ?_
    refine wa_iload_n C 2 35 dX12_isGuess_34 rfl rfl ?_
    refine wa_iadd C 36 dX12_isGuess_35 rfl ?_
    refine wa_iload_n C 1 37 dX12_isGuess_36 rfl rfl ?_
    refine wa_bipush (v := 10) C 39 dX12_isGuess_37 rfl rfl ?_
    refine wa_irem C 40 dX12_isGuess_39 rfl (by decide) ?_
    obtain ⟨g5, hf⟩ := grd_ex hf
    obtain ⟨y6, ey6, hf⟩ := bnd_ex hf
    refine wa_iast (ws' := [wM dT a y6]) C 41 0 10 dX12_isGuess_40 rfl rfl rfl (vi_in g5) (by rw [ey6]; rfl) ?_
    refine wa_aload_n C 0 42 dX12_isGuess_41 rfl rfl ?_
    obtain ⟨q7, hq7, hf⟩ := bind_ex hf
    refine wa_callVAi (b1 := 0) (q1 := 0) (ci := 12) (As := []) C 45 dX12_isGuess_42 rfl kv_X12_445 (c_X12_isSeen hq7) ⟨rfl, rfl⟩ ⟨Nat.le_of_ble_eq_true rfl, Nat.le_of_ble_eq_true rfl⟩ rfl rfl rfl rfl rfl ⟨Nat.zero_le _, Nat.zero_le _⟩ (Nat.le_of_ble_eq_true rfl) ?_
    obtain ⟨g8, hf⟩ := grd_ex hf
    cases hf
    exact wa_zret C dX12_isGuess_45 (bz_nar g8) rfl rfl
  · replace hf := ite_t hf c3
    refine wa_iconst (v := 0) C 22 dX12_isGuess_21 rfl rfl ?_
    cases hf
    exact wa_zret C dX12_isGuess_22 rfl rfl rfl
theorem kv_X12_448 : KV RX12 448 yX12_isGuess cX12_isGuess 3 (some .boolean) 1 := KV.mk q2081 q2083 qs116 q13 q2084 ⟨by decide, by decide, by decide +kernel⟩
def f_X12_ranked_L45 (l1 : Int32) : Nat → Int32 → Int32 → Int32 → MS → Option (Int32 × MS)
  | 0, _, _, _, _ => none
  | n + 1, l2, l3, l4, z0 => (if ((10 : Int32) * (z0.1 1)) ≤ l4 then (if l1 = 0 then some (l2, z0) else some (l3, z0)) else (f_X12_isGuess z0 l4).bind (fun q7 => (if q7.1 = 0 then bnd (l4 + 1) (fun x13 => f_X12_ranked_L45 l1 n l2 l3 x13 q7.2) else bnd (l2 + 1) (fun x9 => (if l3 = (-1 : Int32) then bnd (l4 + 1) (fun x12 => f_X12_ranked_L45 l1 n x9 l4 x12 q7.2) else bnd (l4 + 1) (fun x11 => f_X12_ranked_L45 l1 n x9 l3 x11 q7.2))))))
def f_X12_ranked (v : MS) (p0 : Int32) : Option (Int32 × MS) := bnd (upd v.1 0 (0 : Int32), v.2) (fun y1 => (f_X12_isWhat y1 p0 (2 : Int32)).bind (fun q2 => (if q2.1 = 0 then some ((0 : Int32), q2.2) else (if p0 = (2 : Int32) then (f_X12_tries q2.2).bind (fun q14 => (f_X12_isSeen q14).bind (fun q15 => (if q15.1 = 0 then some ((0 : Int32), q15.2) else some ((1 : Int32), q15.2)))) else f_X12_ranked_L45 p0 FUEL (0 : Int32) (-1 : Int32) (0 : Int32) q2.2))))
set_option maxRecDepth 20000 in
theorem w_X12_ranked_L45 {p : Program} {l : Launch} {e : Env} {s : State} {m : MethodId} {args : Array Value} {below : List Frame} {meth : Method} {c : Code} {D : va_G} {A : Nat → Prop} {dT : Nat → ClassId} {a : Nat → Nat} {res : Int32 × MS} {l1 : Int32} (C : Cx p s m args meth c cX12_ranked 5 RX12 (some .int) D A dT) : ∀ (n : Nat) (l2 : Int32) (l3 : Int32) (l4 : Int32) (z0 : MS), f_X12_ranked_L45 l1 n l2 l3 l4 z0 = some res → WA p l e ({ frames := 7, cells := 0, slots := 0, locals := 164 } : Room) s m args below meth c (MQ below (QI D dT A ([wM dT a res.2]) res.1) args s 0 0 A) D A 0 0 5 45 ([wM dT a z0]) [(0, .ref (a 0)), (1, .int l1), (2, .int l2), (3, .int l3), (4, .int l4)] [] := by
  intro n
  induction n with
  | zero => intro l2 l3 l4 z0 hf; cases hf
  | succ n ih =>
    intro l2 l3 l4 z0 hf
    unfold f_X12_ranked_L45 at hf
    refine wa_iload C 4 47 dX12_ranked_45 rfl rfl ?_
    refine wa_bipush (v := 10) C 49 dX12_ranked_47 rfl rfl ?_
    refine wa_aload_n C 0 50 dX12_ranked_49 rfl rfl ?_
    refine wa_get C 53 0 0 1 dX12_ranked_50 rfl iX12 q1450 rfl (Nat.le_of_ble_eq_true rfl) rfl rfl rfl ?_
    refine wa_imul C 54 dX12_ranked_53 rfl ?_
    refine wa_icmp_ge C 86 57 dX12_ranked_54 rfl rfl (fun c5 => ?_) (fun c5 => ?_)
    · replace hf := ite_t hf c5
      refine wa_iload_n C 1 87 dX12_ranked_86 rfl rfl ?_
      refine wa_if_ne C 94 90 dX12_ranked_87 rfl rfl (fun c6 => ?_) (fun c6 => ?_)
      · replace hf := ite_f hf c6
        refine wa_iload_n C 3 95 dX12_ranked_94 rfl rfl ?_
        cases hf
        exact wa_iret C dX12_ranked_95 rfl rfl
      · replace hf := ite_t hf c6
        refine wa_iload_n C 2 91 dX12_ranked_90 rfl rfl ?_
        refine wa_goto C 95 dX12_ranked_91 rfl ?_
        cases hf
        exact wa_iret C dX12_ranked_95 rfl rfl
    · replace hf := ite_f hf c5
      refine wa_aload_n C 0 58 dX12_ranked_57 rfl rfl ?_
      refine wa_iload C 4 60 dX12_ranked_58 rfl rfl ?_
      obtain ⟨q7, hq7, hf⟩ := bind_ex hf
      refine wa_callVAi (b1 := 0) (q1 := 0) (ci := 12) (As := [.int l4]) C 63 dX12_ranked_60 rfl kv_X12_448 (c_X12_isGuess hq7) ⟨rfl, rfl⟩ ⟨Nat.le_of_ble_eq_true rfl, Nat.le_of_ble_eq_true rfl⟩ rfl rfl rfl rfl rfl ⟨Nat.zero_le _, Nat.zero_le _⟩ (Nat.le_of_ble_eq_true rfl) ?_
      refine wa_if_ne C 69 66 dX12_ranked_63 rfl rfl (fun c8 => ?_) (fun c8 => ?_)
      · replace hf := ite_f hf c8
        obtain ⟨x9, ex9, hf⟩ := bnd_ex hf
        refine wa_iinc (v := x9) (lv' := [(0, .ref (a 0)), (1, .int l1), (2, .int x9), (3, .int l3), (4, .int l4)]) C 2 [1, 2, 0, 3, 4] 72 dX12_ranked_69 rfl rfl (by rw [ex9]; rfl) (Nat.le_of_ble_eq_true rfl) rfl ?_
        refine wa_iload_n C 3 73 dX12_ranked_72 rfl rfl ?_
        refine wa_iconst (v := (-1)) C 74 dX12_ranked_73 rfl rfl ?_
        refine wa_icmp_ne C 80 77 dX12_ranked_74 rfl rfl (fun c10 => ?_) (fun c10 => ?_)
        · replace hf := ite_f hf c10
          obtain ⟨x11, ex11, hf⟩ := bnd_ex hf
          refine wa_iinc (v := x11) (lv' := [(0, .ref (a 0)), (1, .int l1), (2, .int x9), (3, .int l3), (4, .int x11)]) C 4 [1, 2, 3, 4, 0] 83 dX12_ranked_80 rfl rfl (by rw [ex11]; rfl) (Nat.le_of_ble_eq_true rfl) rfl ?_
          refine wa_goto C 45 dX12_ranked_83 rfl ?_
          exact ih x9 l3 x11 q7.2 hf
        · replace hf := ite_t hf c10
          refine wa_iload C 4 79 dX12_ranked_77 rfl rfl ?_
          refine wa_istore_n (lv' := [(0, .ref (a 0)), (1, .int l1), (2, .int x9), (3, .int l4), (4, .int l4)]) C [1, 2, 3, 0, 4] 80 dX12_ranked_79 rfl (Nat.le_of_ble_eq_true rfl) rfl ?_
          obtain ⟨x12, ex12, hf⟩ := bnd_ex hf
          refine wa_iinc (v := x12) (lv' := [(0, .ref (a 0)), (1, .int l1), (2, .int x9), (3, .int l4), (4, .int x12)]) C 4 [1, 2, 3, 4, 0] 83 dX12_ranked_80 rfl rfl (by rw [ex12]; rfl) (Nat.le_of_ble_eq_true rfl) rfl ?_
          refine wa_goto C 45 dX12_ranked_83 rfl ?_
          exact ih x9 l4 x12 q7.2 hf
      · replace hf := ite_t hf c8
        refine wa_goto C 80 dX12_ranked_66 rfl ?_
        obtain ⟨x13, ex13, hf⟩ := bnd_ex hf
        refine wa_iinc (v := x13) (lv' := [(0, .ref (a 0)), (1, .int l1), (2, .int l2), (3, .int l3), (4, .int x13)]) C 4 [1, 2, 3, 4, 0] 83 dX12_ranked_80 rfl rfl (by rw [ex13]; rfl) (Nat.le_of_ble_eq_true rfl) rfl ?_
        refine wa_goto C 45 dX12_ranked_83 rfl ?_
        exact ih l2 l3 x13 q7.2 hf
set_option maxRecDepth 20000 in
theorem c_X12_ranked {l : Launch} {D : va_G} {dT : Nat → ClassId} {a : Nat → Nat} {v : MS} {p0 : Int32} {res : Int32 × MS} (hf : f_X12_ranked v p0 = some res) : CTi l yX12_ranked cX12_ranked 5 (some .int) ({ frames := 7, cells := 0, slots := 0, locals := 164 } : Room) D dT [.ref (a 0), .int p0] ([wM dT a v]) ([wM dT a res.2]) res.1 := by
  refine CTi.of (by decide) (Nat.le_of_ble_eq_true rfl) rfl ?_
  intro p e s m args below meth c A C
  unfold f_X12_ranked at hf
  refine wa_aload_n C 0 1 dX12_ranked_0 rfl rfl ?_
  refine wa_iconst (v := 0) C 2 dX12_ranked_1 rfl rfl ?_
  obtain ⟨y1, ey1, hf⟩ := bnd_ex hf
  refine wa_put (ws' := [wM dT a y1]) C 5 0 0 0 tyX12 dX12_ranked_2 rfl iX12 tyX12_ok nmX12 q1449 rfl (Nat.le_of_ble_eq_true rfl) rfl rfl rfl rfl rfl (Nat.le_of_ble_eq_true rfl) (by rw [ey1]; rfl) ?_
  refine wa_aload_n C 0 6 dX12_ranked_5 rfl rfl ?_
  refine wa_iload_n C 1 7 dX12_ranked_6 rfl rfl ?_
  refine wa_iconst (v := 2) C 8 dX12_ranked_7 rfl rfl ?_
  obtain ⟨q2, hq2, hf⟩ := bind_ex hf
  refine wa_callVAi (b1 := 0) (q1 := 0) (ci := 12) (As := [.int p0, .int (2 : Int32)]) C 11 dX12_ranked_8 rfl kv_X12_371 (c_X12_isWhat hq2) ⟨rfl, rfl⟩ ⟨Nat.le_of_ble_eq_true rfl, Nat.le_of_ble_eq_true rfl⟩ rfl rfl rfl rfl rfl ⟨Nat.zero_le _, Nat.zero_le _⟩ (Nat.le_of_ble_eq_true rfl) ?_
  refine wa_if_ne C 16 14 dX12_ranked_11 rfl rfl (fun c3 => ?_) (fun c3 => ?_)
  · replace hf := ite_f hf c3
    refine wa_iload_n C 1 17 dX12_ranked_16 rfl rfl ?_
    refine wa_iconst (v := 2) C 18 dX12_ranked_17 rfl rfl ?_
    refine wa_icmp_ne C 38 21 dX12_ranked_18 rfl rfl (fun c4 => ?_) (fun c4 => ?_)
    · replace hf := ite_f hf c4
      refine wa_iconst (v := 0) C 39 dX12_ranked_38 rfl rfl ?_
      refine wa_istore_n (lv' := [(0, .ref (a 0)), (1, .int p0), (2, .int (0 : Int32))]) C [1, 2, 0] 40 dX12_ranked_39 rfl (Nat.le_of_ble_eq_true rfl) rfl ?_
      refine wa_iconst (v := (-1)) C 41 dX12_ranked_40 rfl rfl ?_
      refine wa_istore_n (lv' := [(0, .ref (a 0)), (1, .int p0), (2, .int (0 : Int32)), (3, .int (-1 : Int32))]) C [1, 2, 3, 0] 42 dX12_ranked_41 rfl (Nat.le_of_ble_eq_true rfl) rfl ?_
      refine wa_iconst (v := 0) C 43 dX12_ranked_42 rfl rfl ?_
      refine wa_istore (lv' := [(0, .ref (a 0)), (1, .int p0), (2, .int (0 : Int32)), (3, .int (-1 : Int32)), (4, .int (0 : Int32))]) C [1, 2, 3, 4, 0] 45 dX12_ranked_43 rfl (Nat.le_of_ble_eq_true rfl) rfl ?_
      exact w_X12_ranked_L45 C FUEL (0 : Int32) (-1 : Int32) (0 : Int32) q2.2 hf
    · replace hf := ite_t hf c4
      refine wa_aload_n C 0 22 dX12_ranked_21 rfl rfl ?_
      obtain ⟨q14, hq14, hf⟩ := bind_ex hf
      refine wa_callVAv (b1 := 0) (q1 := 0) (ci := 12) (As := []) C 25 dX12_ranked_22 rfl kv_X12_337 (c_X12_tries hq14) ⟨rfl, rfl⟩ ⟨Nat.le_of_ble_eq_true rfl, Nat.le_of_ble_eq_true rfl⟩ rfl rfl rfl rfl rfl ⟨Nat.zero_le _, Nat.zero_le _⟩ (Nat.le_of_ble_eq_true rfl) ?_
      refine wa_aload_n C 0 26 dX12_ranked_25 rfl rfl ?_
      obtain ⟨q15, hq15, hf⟩ := bind_ex hf
      refine wa_callVAi (b1 := 0) (q1 := 0) (ci := 12) (As := []) C 29 dX12_ranked_26 rfl kv_X12_445 (c_X12_isSeen hq15) ⟨rfl, rfl⟩ ⟨Nat.le_of_ble_eq_true rfl, Nat.le_of_ble_eq_true rfl⟩ rfl rfl rfl rfl rfl ⟨Nat.zero_le _, Nat.zero_le _⟩ (Nat.le_of_ble_eq_true rfl) ?_
      refine wa_if_eq C 36 32 dX12_ranked_29 rfl rfl (fun c16 => ?_) (fun c16 => ?_)
      · replace hf := ite_t hf c16
        refine wa_iconst (v := 0) C 37 dX12_ranked_36 rfl rfl ?_
        cases hf
        exact wa_iret C dX12_ranked_37 rfl rfl
      · replace hf := ite_f hf c16
        refine wa_iconst (v := 1) C 33 dX12_ranked_32 rfl rfl ?_
        refine wa_goto C 37 dX12_ranked_33 rfl ?_
        cases hf
        exact wa_iret C dX12_ranked_37 rfl rfl
  · replace hf := ite_t hf c3
    refine wa_iconst (v := 0) C 15 dX12_ranked_14 rfl rfl ?_
    cases hf
    exact wa_iret C dX12_ranked_15 rfl rfl
def f_X12_look_L106 (l1 : Int32) (z0 : MS) : Nat → Int32 → Int32 → Int32 → Option (Int32 × MS)
  | 0, _, _, _ => none
  | n + 1, l2, l3, l4 => (if (z0.1 1) ≤ l4 then (if l1 = 0 then some (l2, z0) else some (l3, z0)) else grd (vi l4 12) ((f_X12_bits (z0.2.2 22 (l4).toNatClampNeg)).bind (fun q9 => (if l3 < q9 then grd (vi l4 12) ((f_X12_bits (z0.2.2 22 (l4).toNatClampNeg)).bind (fun q12 => bnd (l4 + 1) (fun x13 => f_X12_look_L106 l1 z0 n l4 q12 x13))) else bnd (l4 + 1) (fun x14 => f_X12_look_L106 l1 z0 n l2 l3 x14)))))
def f_X12_look_L62 (k41 : Int32 → MS → Option (Int32 × MS)) (l1 : Int32) (l2 : Int32) : Nat → Int32 → MS → Option (Int32 × MS)
  | 0, _, _ => none
  | n + 1, l3, z0 => (if (z0.1 1) ≤ l3 then bnd (l2 + 1) (fun x19 => k41 x19 z0) else grd (vi l3 12) (grd (vi l3 12) (grd (vi l3 12) (bnd (z0.1, z0.2.1, uA z0.2.2 22 (l3).toNatClampNeg ((z0.2.2 22 (l3).toNatClampNeg) ||| ((1 : Int32) <<< ((z0.2.2 21 (l3).toNatClampNeg) &&& 31)))) (fun y23 => bnd (l3 + 1) (fun x24 => f_X12_look_L62 k41 l1 l2 n x24 y23))))))
def f_X12_look_L41 (l1 : Int32) : Nat → Int32 → MS → Option (Int32 × MS)
  | 0, _, _ => none
  | n + 1, l2, z0 => (if ((10 : Int32) * (z0.1 1)) ≤ l2 then f_X12_look_L106 l1 z0 FUEL (-1 : Int32) (0 : Int32) (0 : Int32) else (f_X12_isGuess z0 l2).bind (fun q15 => (if q15.1 = 0 then bnd (l2 + 1) (fun x17 => f_X12_look_L41 l1 n x17 q15.2) else f_X12_look_L62 (f_X12_look_L41 l1 n) l1 l2 FUEL (0 : Int32) q15.2)))
def f_X12_look_L18 (l1 : Int32) : Nat → Int32 → MS → Option (Int32 × MS)
  | 0, _, _ => none
  | n + 1, l2, z0 => (if (z0.1 1) ≤ l2 then f_X12_look_L41 l1 FUEL (0 : Int32) z0 else grd (vi l2 12) (bnd (z0.1, z0.2.1, uA z0.2.2 22 (l2).toNatClampNeg (0 : Int32)) (fun y26 => bnd (l2 + 1) (fun x27 => f_X12_look_L18 l1 n x27 y26))))
def f_X12_look (v : MS) (p0 : Int32) : Option (Int32 × MS) := bnd (upd v.1 0 (0 : Int32), v.2) (fun y1 => (f_X12_isWhat y1 p0 (1 : Int32)).bind (fun q2 => (if q2.1 = 0 then some ((0 : Int32), q2.2) else f_X12_look_L18 p0 FUEL (0 : Int32) q2.2)))
set_option maxRecDepth 20000 in
theorem w_X12_look_L106 {p : Program} {l : Launch} {e : Env} {s : State} {m : MethodId} {args : Array Value} {below : List Frame} {meth : Method} {c : Code} {D : va_G} {A : Nat → Prop} {dT : Nat → ClassId} {a : Nat → Nat} {res : Int32 × MS} {l1 : Int32} {z0 : MS} (C : Cx p s m args meth c cX12_look 5 RX12 (some .int) D A dT) : ∀ (n : Nat) (l2 : Int32) (l3 : Int32) (l4 : Int32), f_X12_look_L106 l1 z0 n l2 l3 l4 = some res → WA p l e ({ frames := 7, cells := 0, slots := 0, locals := 164 } : Room) s m args below meth c (MQ below (QI D dT A ([wM dT a res.2]) res.1) args s 0 0 A) D A 0 0 5 106 ([wM dT a z0]) [(0, .ref (a 0)), (1, .int l1), (2, .int l2), (3, .int l3), (4, .int l4)] [] := by
  intro n
  induction n with
  | zero => intro l2 l3 l4 hf; cases hf
  | succ n ih =>
    intro l2 l3 l4 hf
    unfold f_X12_look_L106 at hf
    refine wa_iload C 4 108 dX12_look_106 rfl rfl ?_
    refine wa_aload_n C 0 109 dX12_look_108 rfl rfl ?_
    refine wa_get C 112 0 0 1 dX12_look_109 rfl iX12 q1450 rfl (Nat.le_of_ble_eq_true rfl) rfl rfl rfl ?_
    refine wa_icmp_ge C 152 115 dX12_look_112 rfl rfl (fun c6 => ?_) (fun c6 => ?_)
    · replace hf := ite_t hf c6
      refine wa_iload_n C 1 153 dX12_look_152 rfl rfl ?_
      refine wa_if_ne C 160 156 dX12_look_153 rfl rfl (fun c7 => ?_) (fun c7 => ?_)
      · replace hf := ite_f hf c7
        refine wa_iload_n C 3 161 dX12_look_160 rfl rfl ?_
        cases hf
        exact wa_iret C dX12_look_161 rfl rfl
      · replace hf := ite_t hf c7
        refine wa_iload_n C 2 157 dX12_look_156 rfl rfl ?_
        refine wa_goto C 161 dX12_look_157 rfl ?_
        cases hf
        exact wa_iret C dX12_look_161 rfl rfl
    · replace hf := ite_f hf c6
      refine wa_aload_n C 0 116 dX12_look_115 rfl rfl ?_
      refine wa_get C 119 0 0 51 dX12_look_116 rfl iX12 q1500 rfl (Nat.le_of_ble_eq_true rfl) rfl rfl rfl ?_
      refine wa_iload C 4 121 dX12_look_119 rfl rfl ?_
      obtain ⟨g8, hf⟩ := grd_ex hf
      refine wa_iald C 122 0 22 dX12_look_121 rfl rfl rfl (vi_in g8) ?_
      obtain ⟨q9, hq9, hf⟩ := bind_ex hf
      refine wa_callS0i (As := [.int (z0.2.2 22 (l4).toNatClampNeg)]) C 125 dX12_look_122 rfl ks_X12_291 (c_X12_bits hq9) ⟨rfl, rfl⟩ ⟨Nat.le_of_ble_eq_true rfl, Nat.le_of_ble_eq_true rfl⟩ rfl rfl ⟨Nat.zero_le _, Nat.zero_le _⟩ (Nat.le_of_ble_eq_true rfl) ?_
      refine wa_iload_n C 3 126 dX12_look_125 rfl rfl ?_
      refine wa_icmp_gt C 132 129 dX12_look_126 rfl rfl (fun c10 => ?_) (fun c10 => ?_)
      · replace hf := ite_t hf c10
        refine wa_iload C 4 134 dX12_look_132 rfl rfl ?_
        refine wa_istore_n (lv' := [(0, .ref (a 0)), (1, .int l1), (2, .int l4), (3, .int l3), (4, .int l4)]) C [1, 2, 0, 3, 4] 135 dX12_look_134 rfl (Nat.le_of_ble_eq_true rfl) rfl ?_
        refine wa_aload_n C 0 136 dX12_look_135 rfl rfl ?_
        refine wa_get C 139 0 0 51 dX12_look_136 rfl iX12 q1500 rfl (Nat.le_of_ble_eq_true rfl) rfl rfl rfl ?_
        refine wa_iload C 4 141 dX12_look_139 rfl rfl ?_
        obtain ⟨g11, hf⟩ := grd_ex hf
        refine wa_iald C 142 0 22 dX12_look_141 rfl rfl rfl (vi_in g11) ?_
        obtain ⟨q12, hq12, hf⟩ := bind_ex hf
        refine wa_callS0i (As := [.int (z0.2.2 22 (l4).toNatClampNeg)]) C 145 dX12_look_142 rfl ks_X12_291 (c_X12_bits hq12) ⟨rfl, rfl⟩ ⟨Nat.le_of_ble_eq_true rfl, Nat.le_of_ble_eq_true rfl⟩ rfl rfl ⟨Nat.zero_le _, Nat.zero_le _⟩ (Nat.le_of_ble_eq_true rfl) ?_
        refine wa_istore_n (lv' := [(0, .ref (a 0)), (1, .int l1), (2, .int l4), (3, .int q12), (4, .int l4)]) C [1, 2, 3, 0, 4] 146 dX12_look_145 rfl (Nat.le_of_ble_eq_true rfl) rfl ?_
        obtain ⟨x13, ex13, hf⟩ := bnd_ex hf
        refine wa_iinc (v := x13) (lv' := [(0, .ref (a 0)), (1, .int l1), (2, .int l4), (3, .int q12), (4, .int x13)]) C 4 [1, 2, 3, 4, 0] 149 dX12_look_146 rfl rfl (by rw [ex13]; rfl) (Nat.le_of_ble_eq_true rfl) rfl ?_
        refine wa_goto C 106 dX12_look_149 rfl ?_
        exact ih l4 q12 x13 hf
      · replace hf := ite_f hf c10
        refine wa_goto C 146 dX12_look_129 rfl ?_
        obtain ⟨x14, ex14, hf⟩ := bnd_ex hf
        refine wa_iinc (v := x14) (lv' := [(0, .ref (a 0)), (1, .int l1), (2, .int l2), (3, .int l3), (4, .int x14)]) C 4 [1, 2, 3, 4, 0] 149 dX12_look_146 rfl rfl (by rw [ex14]; rfl) (Nat.le_of_ble_eq_true rfl) rfl ?_
        refine wa_goto C 106 dX12_look_149 rfl ?_
        exact ih l2 l3 x14 hf
set_option maxRecDepth 20000 in
theorem w_X12_look_L62 {p : Program} {l : Launch} {e : Env} {s : State} {m : MethodId} {args : Array Value} {below : List Frame} {meth : Method} {c : Code} {D : va_G} {A : Nat → Prop} {dT : Nat → ClassId} {a : Nat → Nat} {res : Int32 × MS} {l1 : Int32} {l2 : Int32} (C : Cx p s m args meth c cX12_look 5 RX12 (some .int) D A dT) {k41 : Int32 → MS → Option (Int32 × MS)} (hk41 : ∀ (l2 : Int32) (z0 : MS), k41 l2 z0 = some res → WA p l e ({ frames := 7, cells := 0, slots := 0, locals := 164 } : Room) s m args below meth c (MQ below (QI D dT A ([wM dT a res.2]) res.1) args s 0 0 A) D A 0 0 5 41 ([wM dT a z0]) [(0, .ref (a 0)), (1, .int l1), (2, .int l2)] []) : ∀ (n : Nat) (l3 : Int32) (z0 : MS), f_X12_look_L62 k41 l1 l2 n l3 z0 = some res → WA p l e ({ frames := 7, cells := 0, slots := 0, locals := 164 } : Room) s m args below meth c (MQ below (QI D dT A ([wM dT a res.2]) res.1) args s 0 0 A) D A 0 0 5 62 ([wM dT a z0]) [(0, .ref (a 0)), (1, .int l1), (2, .int l2), (3, .int l3)] [] := by
  intro n
  induction n with
  | zero => intro l3 z0 hf; cases hf
  | succ n ih =>
    intro l3 z0 hf
    unfold f_X12_look_L62 at hf
    refine wa_iload_n C 3 63 dX12_look_62 rfl rfl ?_
    refine wa_aload_n C 0 64 dX12_look_63 rfl rfl ?_
    refine wa_get C 67 0 0 1 dX12_look_64 rfl iX12 q1450 rfl (Nat.le_of_ble_eq_true rfl) rfl rfl rfl ?_
    refine wa_icmp_ge C 93 70 dX12_look_67 rfl rfl (fun c18 => ?_) (fun c18 => ?_)
    · replace hf := ite_t hf c18
      obtain ⟨x19, ex19, hf⟩ := bnd_ex hf
      refine wa_iinc (v := x19) (lv' := [(0, .ref (a 0)), (1, .int l1), (2, .int x19), (3, .int l3)]) C 2 [1, 2, 0, 3] 96 dX12_look_93 rfl rfl (by rw [ex19]; rfl) (Nat.le_of_ble_eq_true rfl) rfl ?_
      refine wa_goto C 41 dX12_look_96 rfl ?_
      refine wa_lv (lv' := [(0, .ref (a 0)), (1, .int l1), (2, .int x19)]) [0, 1, 2] rfl ?_
      exact hk41 x19 z0 hf
    · replace hf := ite_f hf c18
      refine wa_aload_n C 0 71 dX12_look_70 rfl rfl ?_
      refine wa_get C 74 0 0 51 dX12_look_71 rfl iX12 q1500 rfl (Nat.le_of_ble_eq_true rfl) rfl rfl rfl ?_
      refine wa_iload_n C 3 75 dX12_look_74 rfl rfl ?_
      refine wa_dup2 C 76 dX12_look_75 rfl rfl rfl ?_
      obtain ⟨g20, hf⟩ := grd_ex hf
      refine wa_iald C 77 0 22 dX12_look_76 rfl rfl rfl (vi_in g20) ?_
      refine wa_iconst (v := 1) C 78 dX12_look_77 rfl rfl ?_
      refine wa_aload_n C 0 79 dX12_look_78 rfl rfl ?_
      refine wa_get C 82 0 0 50 dX12_look_79 rfl iX12 q1499 rfl (Nat.le_of_ble_eq_true rfl) rfl rfl rfl ?_
      refine wa_iload_n C 3 83 dX12_look_82 rfl rfl ?_
      obtain ⟨g21, hf⟩ := grd_ex hf
      refine wa_iald C 84 0 21 dX12_look_83 rfl rfl rfl (vi_in g21) ?_
      refine wa_ishl C 85 dX12_look_84 rfl ?_
      refine wa_ior C 86 dX12_look_85 rfl ?_
      obtain ⟨g22, hf⟩ := grd_ex hf
      obtain ⟨y23, ey23, hf⟩ := bnd_ex hf
      refine wa_iast (ws' := [wM dT a y23]) C 87 0 22 dX12_look_86 rfl rfl rfl (vi_in g22) (by rw [ey23]; rfl) ?_
      obtain ⟨x24, ex24, hf⟩ := bnd_ex hf
      refine wa_iinc (v := x24) (lv' := [(0, .ref (a 0)), (1, .int l1), (2, .int l2), (3, .int x24)]) C 3 [1, 2, 3, 0] 90 dX12_look_87 rfl rfl (by rw [ex24]; rfl) (Nat.le_of_ble_eq_true rfl) rfl ?_
      refine wa_goto C 62 dX12_look_90 rfl ?_
      exact ih x24 y23 hf
set_option maxRecDepth 20000 in
theorem w_X12_look_L41 {p : Program} {l : Launch} {e : Env} {s : State} {m : MethodId} {args : Array Value} {below : List Frame} {meth : Method} {c : Code} {D : va_G} {A : Nat → Prop} {dT : Nat → ClassId} {a : Nat → Nat} {res : Int32 × MS} {l1 : Int32} (C : Cx p s m args meth c cX12_look 5 RX12 (some .int) D A dT) : ∀ (n : Nat) (l2 : Int32) (z0 : MS), f_X12_look_L41 l1 n l2 z0 = some res → WA p l e ({ frames := 7, cells := 0, slots := 0, locals := 164 } : Room) s m args below meth c (MQ below (QI D dT A ([wM dT a res.2]) res.1) args s 0 0 A) D A 0 0 5 41 ([wM dT a z0]) [(0, .ref (a 0)), (1, .int l1), (2, .int l2)] [] := by
  intro n
  induction n with
  | zero => intro l2 z0 hf; cases hf
  | succ n ih =>
    intro l2 z0 hf
    unfold f_X12_look_L41 at hf
    refine wa_iload_n C 2 42 dX12_look_41 rfl rfl ?_
    refine wa_bipush (v := 10) C 44 dX12_look_42 rfl rfl ?_
    refine wa_aload_n C 0 45 dX12_look_44 rfl rfl ?_
    refine wa_get C 48 0 0 1 dX12_look_45 rfl iX12 q1450 rfl (Nat.le_of_ble_eq_true rfl) rfl rfl rfl ?_
    refine wa_imul C 49 dX12_look_48 rfl ?_
    refine wa_icmp_ge C 99 52 dX12_look_49 rfl rfl (fun c5 => ?_) (fun c5 => ?_)
    · replace hf := ite_t hf c5
      refine wa_iconst (v := (-1)) C 100 dX12_look_99 rfl rfl ?_
      refine wa_istore_n (lv' := [(0, .ref (a 0)), (1, .int l1), (2, .int (-1 : Int32))]) C [1, 2, 0] 101 dX12_look_100 rfl (Nat.le_of_ble_eq_true rfl) rfl ?_
      refine wa_iconst (v := 0) C 102 dX12_look_101 rfl rfl ?_
      refine wa_istore_n (lv' := [(0, .ref (a 0)), (1, .int l1), (2, .int (-1 : Int32)), (3, .int (0 : Int32))]) C [1, 2, 3, 0] 103 dX12_look_102 rfl (Nat.le_of_ble_eq_true rfl) rfl ?_
      refine wa_iconst (v := 0) C 104 dX12_look_103 rfl rfl ?_
      refine wa_istore (lv' := [(0, .ref (a 0)), (1, .int l1), (2, .int (-1 : Int32)), (3, .int (0 : Int32)), (4, .int (0 : Int32))]) C [1, 2, 3, 4, 0] 106 dX12_look_104 rfl (Nat.le_of_ble_eq_true rfl) rfl ?_
      exact w_X12_look_L106 C FUEL (-1 : Int32) (0 : Int32) (0 : Int32) hf
    · replace hf := ite_f hf c5
      refine wa_aload_n C 0 53 dX12_look_52 rfl rfl ?_
      refine wa_iload_n C 2 54 dX12_look_53 rfl rfl ?_
      obtain ⟨q15, hq15, hf⟩ := bind_ex hf
      refine wa_callVAi (b1 := 0) (q1 := 0) (ci := 12) (As := [.int l2]) C 57 dX12_look_54 rfl kv_X12_448 (c_X12_isGuess hq15) ⟨rfl, rfl⟩ ⟨Nat.le_of_ble_eq_true rfl, Nat.le_of_ble_eq_true rfl⟩ rfl rfl rfl rfl rfl ⟨Nat.zero_le _, Nat.zero_le _⟩ (Nat.le_of_ble_eq_true rfl) ?_
      refine wa_if_eq C 93 60 dX12_look_57 rfl rfl (fun c16 => ?_) (fun c16 => ?_)
      · replace hf := ite_t hf c16
        obtain ⟨x17, ex17, hf⟩ := bnd_ex hf
        refine wa_iinc (v := x17) (lv' := [(0, .ref (a 0)), (1, .int l1), (2, .int x17)]) C 2 [1, 2, 0] 96 dX12_look_93 rfl rfl (by rw [ex17]; rfl) (Nat.le_of_ble_eq_true rfl) rfl ?_
        refine wa_goto C 41 dX12_look_96 rfl ?_
        exact ih x17 q15.2 hf
      · replace hf := ite_f hf c16
        refine wa_iconst (v := 0) C 61 dX12_look_60 rfl rfl ?_
        refine wa_istore_n (lv' := [(0, .ref (a 0)), (1, .int l1), (2, .int l2), (3, .int (0 : Int32))]) C [1, 2, 3, 0] 62 dX12_look_61 rfl (Nat.le_of_ble_eq_true rfl) rfl ?_
        exact w_X12_look_L62 C ih FUEL (0 : Int32) q15.2 hf
set_option maxRecDepth 20000 in
theorem w_X12_look_L18 {p : Program} {l : Launch} {e : Env} {s : State} {m : MethodId} {args : Array Value} {below : List Frame} {meth : Method} {c : Code} {D : va_G} {A : Nat → Prop} {dT : Nat → ClassId} {a : Nat → Nat} {res : Int32 × MS} {l1 : Int32} (C : Cx p s m args meth c cX12_look 5 RX12 (some .int) D A dT) : ∀ (n : Nat) (l2 : Int32) (z0 : MS), f_X12_look_L18 l1 n l2 z0 = some res → WA p l e ({ frames := 7, cells := 0, slots := 0, locals := 164 } : Room) s m args below meth c (MQ below (QI D dT A ([wM dT a res.2]) res.1) args s 0 0 A) D A 0 0 5 18 ([wM dT a z0]) [(0, .ref (a 0)), (1, .int l1), (2, .int l2)] [] := by
  intro n
  induction n with
  | zero => intro l2 z0 hf; cases hf
  | succ n ih =>
    intro l2 z0 hf
    unfold f_X12_look_L18 at hf
    refine wa_iload_n C 2 19 dX12_look_18 rfl rfl ?_
    refine wa_aload_n C 0 20 dX12_look_19 rfl rfl ?_
    refine wa_get C 23 0 0 1 dX12_look_20 rfl iX12 q1450 rfl (Nat.le_of_ble_eq_true rfl) rfl rfl rfl ?_
    refine wa_icmp_ge C 39 26 dX12_look_23 rfl rfl (fun c4 => ?_) (fun c4 => ?_)
    · replace hf := ite_t hf c4
      refine wa_iconst (v := 0) C 40 dX12_look_39 rfl rfl ?_
      refine wa_istore_n (lv' := [(0, .ref (a 0)), (1, .int l1), (2, .int (0 : Int32))]) C [1, 2, 0] 41 dX12_look_40 rfl (Nat.le_of_ble_eq_true rfl) rfl ?_
      exact w_X12_look_L41 C FUEL (0 : Int32) z0 hf
    · replace hf := ite_f hf c4
      refine wa_aload_n C 0 27 dX12_look_26 rfl rfl ?_
      refine wa_get C 30 0 0 51 dX12_look_27 rfl iX12 q1500 rfl (Nat.le_of_ble_eq_true rfl) rfl rfl rfl ?_
      refine wa_iload_n C 2 31 dX12_look_30 rfl rfl ?_
      refine wa_iconst (v := 0) C 32 dX12_look_31 rfl rfl ?_
      obtain ⟨g25, hf⟩ := grd_ex hf
      obtain ⟨y26, ey26, hf⟩ := bnd_ex hf
      refine wa_iast (ws' := [wM dT a y26]) C 33 0 22 dX12_look_32 rfl rfl rfl (vi_in g25) (by rw [ey26]; rfl) ?_
      obtain ⟨x27, ex27, hf⟩ := bnd_ex hf
      refine wa_iinc (v := x27) (lv' := [(0, .ref (a 0)), (1, .int l1), (2, .int x27)]) C 2 [1, 2, 0] 36 dX12_look_33 rfl rfl (by rw [ex27]; rfl) (Nat.le_of_ble_eq_true rfl) rfl ?_
      refine wa_goto C 18 dX12_look_36 rfl ?_
      exact ih x27 y26 hf
set_option maxRecDepth 20000 in
theorem c_X12_look {l : Launch} {D : va_G} {dT : Nat → ClassId} {a : Nat → Nat} {v : MS} {p0 : Int32} {res : Int32 × MS} (hf : f_X12_look v p0 = some res) : CTi l yX12_look cX12_look 5 (some .int) ({ frames := 7, cells := 0, slots := 0, locals := 164 } : Room) D dT [.ref (a 0), .int p0] ([wM dT a v]) ([wM dT a res.2]) res.1 := by
  refine CTi.of (by decide) (Nat.le_of_ble_eq_true rfl) rfl ?_
  intro p e s m args below meth c A C
  unfold f_X12_look at hf
  refine wa_aload_n C 0 1 dX12_look_0 rfl rfl ?_
  refine wa_iconst (v := 0) C 2 dX12_look_1 rfl rfl ?_
  obtain ⟨y1, ey1, hf⟩ := bnd_ex hf
  refine wa_put (ws' := [wM dT a y1]) C 5 0 0 0 tyX12 dX12_look_2 rfl iX12 tyX12_ok nmX12 q1449 rfl (Nat.le_of_ble_eq_true rfl) rfl rfl rfl rfl rfl (Nat.le_of_ble_eq_true rfl) (by rw [ey1]; rfl) ?_
  refine wa_aload_n C 0 6 dX12_look_5 rfl rfl ?_
  refine wa_iload_n C 1 7 dX12_look_6 rfl rfl ?_
  refine wa_iconst (v := 1) C 8 dX12_look_7 rfl rfl ?_
  obtain ⟨q2, hq2, hf⟩ := bind_ex hf
  refine wa_callVAi (b1 := 0) (q1 := 0) (ci := 12) (As := [.int p0, .int (1 : Int32)]) C 11 dX12_look_8 rfl kv_X12_371 (c_X12_isWhat hq2) ⟨rfl, rfl⟩ ⟨Nat.le_of_ble_eq_true rfl, Nat.le_of_ble_eq_true rfl⟩ rfl rfl rfl rfl rfl ⟨Nat.zero_le _, Nat.zero_le _⟩ (Nat.le_of_ble_eq_true rfl) ?_
  refine wa_if_ne C 16 14 dX12_look_11 rfl rfl (fun c3 => ?_) (fun c3 => ?_)
  · replace hf := ite_f hf c3
    refine wa_iconst (v := 0) C 17 dX12_look_16 rfl rfl ?_
    refine wa_istore_n (lv' := [(0, .ref (a 0)), (1, .int p0), (2, .int (0 : Int32))]) C [1, 2, 0] 18 dX12_look_17 rfl (Nat.le_of_ble_eq_true rfl) rfl ?_
    exact w_X12_look_L18 C FUEL (0 : Int32) q2.2 hf
  · replace hf := ite_t hf c3
    refine wa_iconst (v := 0) C 15 dX12_look_14 rfl rfl ?_
    cases hf
    exact wa_iret C dX12_look_15 rfl rfl
def f_X12_storms_J125 (k80 : Int32 → Int32 → MS → Option (Int32 × MS)) (l1 : Int32) (l2 : Int32) (l3 : Int32) (l4 : Int32) (l5 : Int32) (l6 : Int32) (l8 : Int32) (t0 : Int32) (t1 : Int32) (z0 : MS) : Option (Int32 × MS) := bnd (t1 * t0) (fun x24 => (f_X12_eveningGoes z0 (86 : Int32)).bind (fun q25 => bnd (l8 + 1) (fun x26 => k80 x24 x26 q25)))
def f_X12_storms_J103 (k80 : Int32 → Int32 → MS → Option (Int32 × MS)) (l1 : Int32) (l2 : Int32) (l3 : Int32) (l4 : Int32) (l5 : Int32) (l6 : Int32) (l7 : Int32) (l8 : Int32) (t0 : Int32) (z0 : MS) : Option (Int32 × MS) := grd (bz t0) (bnd (upd z0.1 39 t0, z0.2) (fun y22 => (if (y22.1 39) = 0 then f_X12_storms_J125 (k80) l1 l2 l3 l4 l5 l6 l8 ((10 : Int32) - l4) l7 y22 else f_X12_storms_J125 (k80) l1 l2 l3 l4 l5 l6 l8 l4 l7 y22)))
def f_X12_storms_L80 (k62 : Int32 → Int32 → MS → Option (Int32 × MS)) (l1 : Int32) (l2 : Int32) (l3 : Int32) (l4 : Int32) (l5 : Int32) (l6 : Int32) : Nat → Int32 → Int32 → MS → Option (Int32 × MS)
  | 0, _, _, _ => none
  | n + 1, l7, l8, z0 => (if l3 ≤ l8 then (f_X12_areIn z0 l1 l2).bind (fun q14 => (if q14 = 0 then bnd (l5 + (0 : Int32)) (fun x16 => bnd (l6 + 1) (fun x17 => k62 x16 x17 z0)) else bnd (l5 + l7) (fun x18 => bnd (l6 + 1) (fun x19 => k62 x18 x19 z0)))) else (if ((l6 >>> (l8 &&& 31)) &&& (1 : Int32)) = (1 : Int32) then f_X12_storms_J103 (f_X12_storms_L80 k62 l1 l2 l3 l4 l5 l6 n) l1 l2 l3 l4 l5 l6 l7 l8 (1 : Int32) z0 else f_X12_storms_J103 (f_X12_storms_L80 k62 l1 l2 l3 l4 l5 l6 n) l1 l2 l3 l4 l5 l6 l7 l8 (0 : Int32) z0))
def f_X12_storms_L62 (l1 : Int32) (l2 : Int32) (l3 : Int32) (l4 : Int32) : Nat → Int32 → Int32 → MS → Option (Int32 × MS)
  | 0, _, _, _ => none
  | n + 1, l5, l6, z0 => (if ((1 : Int32) <<< (l3 &&& 31)) ≤ l6 then bnd (upd z0.1 39 (0 : Int32), z0.2) (fun y11 => some (l5, y11)) else (f_X12_tries z0).bind (fun q12 => f_X12_storms_L80 (f_X12_storms_L62 l1 l2 l3 l4 n) l1 l2 l3 l4 l5 l6 FUEL (1 : Int32) (0 : Int32) q12))
def f_X12_storms_J47 (l1 : Int32) (l2 : Int32) (l3 : Int32) (l4 : Int32) (t0 : Int32) (z0 : MS) : Option (Int32 × MS) := (f_X12_right z0 t0 (2 : Int32)).bind (fun q8 => (if q8.1 = 0 then some ((0 : Int32), q8.2) else f_X12_storms_L62 l1 l2 l3 l4 FUEL (0 : Int32) (0 : Int32) q8.2))
def f_X12_storms_J46 (l1 : Int32) (l2 : Int32) (l3 : Int32) (l4 : Int32) (z0 : MS) : Option (Int32 × MS) := f_X12_storms_J47 l1 l2 l3 l4 (0 : Int32) z0
def f_X12_storms (v : MS) (p0 : Int32) (p1 : Int32) (p2 : Int32) (p3 : Int32) : Option (Int32 × MS) := bnd (upd v.1 0 (0 : Int32), v.2) (fun y1 => (f_X12_isPerson y1 p0).bind (fun q2 => (if q2.1 = 0 then some ((0 : Int32), q2.2) else (f_X12_isPerson q2.2 p1).bind (fun q4 => (if q4.1 = 0 then some ((0 : Int32), q4.2) else (f_X12_within p2 (1 : Int32) (5 : Int32)).bind (fun q6 => (if q6 = 0 then f_X12_storms_J46 p0 p1 p2 p3 q4.2 else (f_X12_within p3 (0 : Int32) (10 : Int32)).bind (fun q27 => (if q27 = 0 then f_X12_storms_J46 p0 p1 p2 p3 q4.2 else f_X12_storms_J47 p0 p1 p2 p3 (1 : Int32) q4.2)))))))))
set_option maxRecDepth 20000 in
theorem w_X12_storms_J125 {p : Program} {l : Launch} {e : Env} {s : State} {m : MethodId} {args : Array Value} {below : List Frame} {meth : Method} {c : Code} {D : va_G} {A : Nat → Prop} {dT : Nat → ClassId} {a : Nat → Nat} {res : Int32 × MS} {l1 : Int32} {l2 : Int32} {l3 : Int32} {l4 : Int32} {l5 : Int32} {l6 : Int32} (C : Cx p s m args meth c cX12_storms 9 RX12 (some .int) D A dT) {k80 : Int32 → Int32 → MS → Option (Int32 × MS)} (hk80 : ∀ (l7 : Int32) (l8 : Int32) (z0 : MS), k80 l7 l8 z0 = some res → WA p l e ({ frames := 5, cells := 0, slots := 0, locals := 120 } : Room) s m args below meth c (MQ below (QI D dT A ([wM dT a res.2]) res.1) args s 0 0 A) D A 0 0 9 80 ([wM dT a z0]) [(0, .ref (a 0)), (1, .int l1), (2, .int l2), (3, .int l3), (4, .int l4), (5, .int l5), (6, .int l6), (7, .int l7), (8, .int l8)] []) : ∀ (l8 : Int32) (t0 : Int32) (t1 : Int32) (z0 : MS), f_X12_storms_J125 k80 l1 l2 l3 l4 l5 l6 l8 t0 t1 z0 = some res → WA p l e ({ frames := 5, cells := 0, slots := 0, locals := 120 } : Room) s m args below meth c (MQ below (QI D dT A ([wM dT a res.2]) res.1) args s 0 0 A) D A 0 0 9 125 ([wM dT a z0]) [(0, .ref (a 0)), (1, .int l1), (2, .int l2), (3, .int l3), (4, .int l4), (5, .int l5), (6, .int l6), (8, .int l8)] [.int t0, .int t1] := by
  intro l8 t0 t1 z0 hf
  unfold f_X12_storms_J125 at hf
  refine wa_imul C 126 dX12_storms_125 rfl ?_
  obtain ⟨x24, ex24, hf⟩ := bnd_ex hf
  refine wa_topi ex24 ?_
  refine wa_istore (lv' := [(0, .ref (a 0)), (1, .int l1), (2, .int l2), (3, .int l3), (4, .int l4), (5, .int l5), (6, .int l6), (7, .int x24), (8, .int l8)]) C [1, 2, 3, 4, 5, 6, 7, 0, 8] 128 dX12_storms_126 rfl (Nat.le_of_ble_eq_true rfl) rfl ?_
  refine wa_aload_n C 0 129 dX12_storms_128 rfl rfl ?_
  refine wa_bipush (v := 86) C 131 dX12_storms_129 rfl rfl ?_
  obtain ⟨q25, hq25, hf⟩ := bind_ex hf
  refine wa_callVAv (b1 := 0) (q1 := 0) (ci := 12) (As := [.int (86 : Int32)]) C 134 dX12_storms_131 rfl kv_X12_334 (c_X12_eveningGoes hq25) ⟨rfl, rfl⟩ ⟨Nat.le_of_ble_eq_true rfl, Nat.le_of_ble_eq_true rfl⟩ rfl rfl rfl rfl rfl ⟨Nat.zero_le _, Nat.zero_le _⟩ (Nat.le_of_ble_eq_true rfl) ?_
  obtain ⟨x26, ex26, hf⟩ := bnd_ex hf
  refine wa_iinc (v := x26) (lv' := [(0, .ref (a 0)), (1, .int l1), (2, .int l2), (3, .int l3), (4, .int l4), (5, .int l5), (6, .int l6), (7, .int x24), (8, .int x26)]) C 8 [1, 2, 3, 4, 5, 6, 7, 8, 0] 137 dX12_storms_134 rfl rfl (by rw [ex26]; rfl) (Nat.le_of_ble_eq_true rfl) rfl ?_
  refine wa_goto C 80 dX12_storms_137 rfl ?_
  exact hk80 x24 x26 q25 hf
set_option maxRecDepth 20000 in
theorem w_X12_storms_J103 {p : Program} {l : Launch} {e : Env} {s : State} {m : MethodId} {args : Array Value} {below : List Frame} {meth : Method} {c : Code} {D : va_G} {A : Nat → Prop} {dT : Nat → ClassId} {a : Nat → Nat} {res : Int32 × MS} {l1 : Int32} {l2 : Int32} {l3 : Int32} {l4 : Int32} {l5 : Int32} {l6 : Int32} (C : Cx p s m args meth c cX12_storms 9 RX12 (some .int) D A dT) {k80 : Int32 → Int32 → MS → Option (Int32 × MS)} (hk80 : ∀ (l7 : Int32) (l8 : Int32) (z0 : MS), k80 l7 l8 z0 = some res → WA p l e ({ frames := 5, cells := 0, slots := 0, locals := 120 } : Room) s m args below meth c (MQ below (QI D dT A ([wM dT a res.2]) res.1) args s 0 0 A) D A 0 0 9 80 ([wM dT a z0]) [(0, .ref (a 0)), (1, .int l1), (2, .int l2), (3, .int l3), (4, .int l4), (5, .int l5), (6, .int l6), (7, .int l7), (8, .int l8)] []) : ∀ (l7 : Int32) (l8 : Int32) (t0 : Int32) (z0 : MS), f_X12_storms_J103 k80 l1 l2 l3 l4 l5 l6 l7 l8 t0 z0 = some res → WA p l e ({ frames := 5, cells := 0, slots := 0, locals := 120 } : Room) s m args below meth c (MQ below (QI D dT A ([wM dT a res.2]) res.1) args s 0 0 A) D A 0 0 9 103 ([wM dT a z0]) [(0, .ref (a 0)), (1, .int l1), (2, .int l2), (3, .int l3), (4, .int l4), (5, .int l5), (6, .int l6), (7, .int l7), (8, .int l8)] [.int t0, .ref (a 0)] := by
  intro l7 l8 t0 z0 hf
  unfold f_X12_storms_J103 at hf
  obtain ⟨g21, hf⟩ := grd_ex hf
  obtain ⟨y22, ey22, hf⟩ := bnd_ex hf
  refine wa_put (ws' := [wM dT a y22]) C 106 0 0 39 tyX12 dX12_storms_103 rfl iX12 tyX12_ok nmX12 q1488 rfl (Nat.le_of_ble_eq_true rfl) rfl rfl rfl (bz_nar g21) (bz_fit g21) (Nat.le_of_ble_eq_true rfl) (by rw [ey22]; rfl) ?_
  refine wa_iload C 7 108 dX12_storms_106 rfl rfl ?_
  refine wa_aload_n C 0 109 dX12_storms_108 rfl rfl ?_
  refine wa_get C 112 0 0 39 dX12_storms_109 rfl iX12 q1488 rfl (Nat.le_of_ble_eq_true rfl) rfl rfl rfl ?_
  refine wa_if_eq C 120 115 dX12_storms_112 rfl rfl (fun c23 => ?_) (fun c23 => ?_)
  · replace hf := ite_t hf c23
    refine wa_bipush (v := 10) C 122 dX12_storms_120 rfl rfl ?_
    refine wa_iload C 4 124 dX12_storms_122 rfl rfl ?_
    refine wa_isub C 125 dX12_storms_124 rfl ?_
    refine wa_lv (lv' := [(0, .ref (a 0)), (1, .int l1), (2, .int l2), (3, .int l3), (4, .int l4), (5, .int l5), (6, .int l6), (8, .int l8)]) [0, 1, 2, 3, 4, 5, 6, 8] rfl ?_
    exact w_X12_storms_J125 C hk80 l8 ((10 : Int32) - l4) l7 y22 hf
  · replace hf := ite_f hf c23
    refine wa_iload C 4 117 dX12_storms_115 rfl rfl ?_
    refine wa_goto C 125 dX12_storms_117 rfl ?_
    refine wa_lv (lv' := [(0, .ref (a 0)), (1, .int l1), (2, .int l2), (3, .int l3), (4, .int l4), (5, .int l5), (6, .int l6), (8, .int l8)]) [0, 1, 2, 3, 4, 5, 6, 8] rfl ?_
    exact w_X12_storms_J125 C hk80 l8 l4 l7 y22 hf
set_option maxRecDepth 20000 in
theorem w_X12_storms_L80 {p : Program} {l : Launch} {e : Env} {s : State} {m : MethodId} {args : Array Value} {below : List Frame} {meth : Method} {c : Code} {D : va_G} {A : Nat → Prop} {dT : Nat → ClassId} {a : Nat → Nat} {res : Int32 × MS} {l1 : Int32} {l2 : Int32} {l3 : Int32} {l4 : Int32} {l5 : Int32} {l6 : Int32} (C : Cx p s m args meth c cX12_storms 9 RX12 (some .int) D A dT) {k62 : Int32 → Int32 → MS → Option (Int32 × MS)} (hk62 : ∀ (l5 : Int32) (l6 : Int32) (z0 : MS), k62 l5 l6 z0 = some res → WA p l e ({ frames := 5, cells := 0, slots := 0, locals := 120 } : Room) s m args below meth c (MQ below (QI D dT A ([wM dT a res.2]) res.1) args s 0 0 A) D A 0 0 9 62 ([wM dT a z0]) [(0, .ref (a 0)), (1, .int l1), (2, .int l2), (3, .int l3), (4, .int l4), (5, .int l5), (6, .int l6)] []) : ∀ (n : Nat) (l7 : Int32) (l8 : Int32) (z0 : MS), f_X12_storms_L80 k62 l1 l2 l3 l4 l5 l6 n l7 l8 z0 = some res → WA p l e ({ frames := 5, cells := 0, slots := 0, locals := 120 } : Room) s m args below meth c (MQ below (QI D dT A ([wM dT a res.2]) res.1) args s 0 0 A) D A 0 0 9 80 ([wM dT a z0]) [(0, .ref (a 0)), (1, .int l1), (2, .int l2), (3, .int l3), (4, .int l4), (5, .int l5), (6, .int l6), (7, .int l7), (8, .int l8)] [] := by
  intro n
  induction n with
  | zero => intro l7 l8 z0 hf; cases hf
  | succ n ih =>
    intro l7 l8 z0 hf
    unfold f_X12_storms_L80 at hf
    refine wa_iload C 8 82 dX12_storms_80 rfl rfl ?_
    refine wa_iload_n C 3 83 dX12_storms_82 rfl rfl ?_
    refine wa_icmp_ge C 140 86 dX12_storms_83 rfl rfl (fun c13 => ?_) (fun c13 => ?_)
    · replace hf := ite_t hf c13
      refine wa_iload C 5 142 dX12_storms_140 rfl rfl ?_
      refine wa_aload_n C 0 143 dX12_storms_142 rfl rfl ?_
      refine wa_iload_n C 1 144 dX12_storms_143 rfl rfl ?_
      refine wa_iload_n C 2 145 dX12_storms_144 rfl rfl ?_
      obtain ⟨q14, hq14, hf⟩ := bind_ex hf
      refine wa_callVAi (b1 := 0) (q1 := 0) (ci := 12) (As := [.int l1, .int l2]) C 148 dX12_storms_145 rfl kv_X12_408 (c_X12_areIn hq14) ⟨rfl, rfl⟩ ⟨Nat.le_of_ble_eq_true rfl, Nat.le_of_ble_eq_true rfl⟩ rfl rfl rfl rfl rfl ⟨Nat.zero_le _, Nat.zero_le _⟩ (Nat.le_of_ble_eq_true rfl) ?_
      refine wa_if_eq C 156 151 dX12_storms_148 rfl rfl (fun c15 => ?_) (fun c15 => ?_)
      · replace hf := ite_t hf c15
        refine wa_iconst (v := 0) C 157 dX12_storms_156 rfl rfl ?_
        refine wa_iadd C 158 dX12_storms_157 rfl ?_
        obtain ⟨x16, ex16, hf⟩ := bnd_ex hf
        refine wa_topi ex16 ?_
        refine wa_istore (lv' := [(0, .ref (a 0)), (1, .int l1), (2, .int l2), (3, .int l3), (4, .int l4), (5, .int x16), (6, .int l6), (7, .int l7), (8, .int l8)]) C [1, 2, 3, 4, 5, 0, 6, 7, 8] 160 dX12_storms_158 rfl (Nat.le_of_ble_eq_true rfl) rfl ?_
        obtain ⟨x17, ex17, hf⟩ := bnd_ex hf
        refine wa_iinc (v := x17) (lv' := [(0, .ref (a 0)), (1, .int l1), (2, .int l2), (3, .int l3), (4, .int l4), (5, .int x16), (6, .int x17), (7, .int l7), (8, .int l8)]) C 6 [1, 2, 3, 4, 5, 6, 0, 7, 8] 163 dX12_storms_160 rfl rfl (by rw [ex17]; rfl) (Nat.le_of_ble_eq_true rfl) rfl ?_
        refine wa_goto C 62 dX12_storms_163 rfl ?_
        refine wa_lv (lv' := [(0, .ref (a 0)), (1, .int l1), (2, .int l2), (3, .int l3), (4, .int l4), (5, .int x16), (6, .int x17)]) [0, 1, 2, 3, 4, 5, 6] rfl ?_
        exact hk62 x16 x17 z0 hf
      · replace hf := ite_f hf c15
        refine wa_iload C 7 153 dX12_storms_151 rfl rfl ?_
        refine wa_goto C 157 dX12_storms_153 rfl ?_
        refine wa_iadd C 158 dX12_storms_157 rfl ?_
        obtain ⟨x18, ex18, hf⟩ := bnd_ex hf
        refine wa_topi ex18 ?_
        refine wa_istore (lv' := [(0, .ref (a 0)), (1, .int l1), (2, .int l2), (3, .int l3), (4, .int l4), (5, .int x18), (6, .int l6), (7, .int l7), (8, .int l8)]) C [1, 2, 3, 4, 5, 0, 6, 7, 8] 160 dX12_storms_158 rfl (Nat.le_of_ble_eq_true rfl) rfl ?_
        obtain ⟨x19, ex19, hf⟩ := bnd_ex hf
        refine wa_iinc (v := x19) (lv' := [(0, .ref (a 0)), (1, .int l1), (2, .int l2), (3, .int l3), (4, .int l4), (5, .int x18), (6, .int x19), (7, .int l7), (8, .int l8)]) C 6 [1, 2, 3, 4, 5, 6, 0, 7, 8] 163 dX12_storms_160 rfl rfl (by rw [ex19]; rfl) (Nat.le_of_ble_eq_true rfl) rfl ?_
        refine wa_goto C 62 dX12_storms_163 rfl ?_
        refine wa_lv (lv' := [(0, .ref (a 0)), (1, .int l1), (2, .int l2), (3, .int l3), (4, .int l4), (5, .int x18), (6, .int x19)]) [0, 1, 2, 3, 4, 5, 6] rfl ?_
        exact hk62 x18 x19 z0 hf
    · replace hf := ite_f hf c13
      refine wa_aload_n C 0 87 dX12_storms_86 rfl rfl ?_
      refine wa_iload C 6 89 dX12_storms_87 rfl rfl ?_
      refine wa_iload C 8 91 dX12_storms_89 rfl rfl ?_
      refine wa_ishr C 92 dX12_storms_91 rfl ?_
      refine wa_iconst (v := 1) C 93 dX12_storms_92 rfl rfl ?_
      refine wa_iand C 94 dX12_storms_93 rfl ?_
      refine wa_iconst (v := 1) C 95 dX12_storms_94 rfl rfl ?_
      refine wa_icmp_ne C 102 98 dX12_storms_95 rfl rfl (fun c20 => ?_) (fun c20 => ?_)
      · replace hf := ite_f hf c20
        refine wa_iconst (v := 0) C 103 dX12_storms_102 rfl rfl ?_
        exact w_X12_storms_J103 C ih l7 l8 (0 : Int32) z0 hf
      · replace hf := ite_t hf c20
        refine wa_iconst (v := 1) C 99 dX12_storms_98 rfl rfl ?_
        refine wa_goto C 103 dX12_storms_99 rfl ?_
        exact w_X12_storms_J103 C ih l7 l8 (1 : Int32) z0 hf
set_option maxRecDepth 20000 in
theorem w_X12_storms_L62 {p : Program} {l : Launch} {e : Env} {s : State} {m : MethodId} {args : Array Value} {below : List Frame} {meth : Method} {c : Code} {D : va_G} {A : Nat → Prop} {dT : Nat → ClassId} {a : Nat → Nat} {res : Int32 × MS} {l1 : Int32} {l2 : Int32} {l3 : Int32} {l4 : Int32} (C : Cx p s m args meth c cX12_storms 9 RX12 (some .int) D A dT) : ∀ (n : Nat) (l5 : Int32) (l6 : Int32) (z0 : MS), f_X12_storms_L62 l1 l2 l3 l4 n l5 l6 z0 = some res → WA p l e ({ frames := 5, cells := 0, slots := 0, locals := 120 } : Room) s m args below meth c (MQ below (QI D dT A ([wM dT a res.2]) res.1) args s 0 0 A) D A 0 0 9 62 ([wM dT a z0]) [(0, .ref (a 0)), (1, .int l1), (2, .int l2), (3, .int l3), (4, .int l4), (5, .int l5), (6, .int l6)] [] := by
  intro n
  induction n with
  | zero => intro l5 l6 z0 hf; cases hf
  | succ n ih =>
    intro l5 l6 z0 hf
    unfold f_X12_storms_L62 at hf
    refine wa_iload C 6 64 dX12_storms_62 rfl rfl ?_
    refine wa_iconst (v := 1) C 65 dX12_storms_64 rfl rfl ?_
    refine wa_iload_n C 3 66 dX12_storms_65 rfl rfl ?_
    refine wa_ishl C 67 dX12_storms_66 rfl ?_
    refine wa_icmp_ge C 166 70 dX12_storms_67 rfl rfl (fun c10 => ?_) (fun c10 => ?_)
    · replace hf := ite_t hf c10
      refine wa_aload_n C 0 167 dX12_storms_166 rfl rfl ?_
      refine wa_iconst (v := 0) C 168 dX12_storms_167 rfl rfl ?_
      obtain ⟨y11, ey11, hf⟩ := bnd_ex hf
      refine wa_put (ws' := [wM dT a y11]) C 171 0 0 39 tyX12 dX12_storms_168 rfl iX12 tyX12_ok nmX12 q1488 rfl (Nat.le_of_ble_eq_true rfl) rfl rfl rfl rfl rfl (Nat.le_of_ble_eq_true rfl) (by rw [ey11]; rfl) ?_
      refine wa_iload C 5 173 dX12_storms_171 rfl rfl ?_
      cases hf
      exact wa_iret C dX12_storms_173 rfl rfl
    · replace hf := ite_f hf c10
      refine wa_iconst (v := 1) C 71 dX12_storms_70 rfl rfl ?_
      refine wa_istore (lv' := [(0, .ref (a 0)), (1, .int l1), (2, .int l2), (3, .int l3), (4, .int l4), (5, .int l5), (6, .int l6), (7, .int (1 : Int32))]) C [1, 2, 3, 4, 5, 6, 7, 0] 73 dX12_storms_71 rfl (Nat.le_of_ble_eq_true rfl) rfl ?_
      refine wa_aload_n C 0 74 dX12_storms_73 rfl rfl ?_
      obtain ⟨q12, hq12, hf⟩ := bind_ex hf
      refine wa_callVAv (b1 := 0) (q1 := 0) (ci := 12) (As := []) C 77 dX12_storms_74 rfl kv_X12_337 (c_X12_tries hq12) ⟨rfl, rfl⟩ ⟨Nat.le_of_ble_eq_true rfl, Nat.le_of_ble_eq_true rfl⟩ rfl rfl rfl rfl rfl ⟨Nat.zero_le _, Nat.zero_le _⟩ (Nat.le_of_ble_eq_true rfl) ?_
      refine wa_iconst (v := 0) C 78 dX12_storms_77 rfl rfl ?_
      refine wa_istore (lv' := [(0, .ref (a 0)), (1, .int l1), (2, .int l2), (3, .int l3), (4, .int l4), (5, .int l5), (6, .int l6), (7, .int (1 : Int32)), (8, .int (0 : Int32))]) C [1, 2, 3, 4, 5, 6, 7, 8, 0] 80 dX12_storms_78 rfl (Nat.le_of_ble_eq_true rfl) rfl ?_
      exact w_X12_storms_L80 C ih FUEL (1 : Int32) (0 : Int32) q12 hf
set_option maxRecDepth 20000 in
theorem w_X12_storms_J47 {p : Program} {l : Launch} {e : Env} {s : State} {m : MethodId} {args : Array Value} {below : List Frame} {meth : Method} {c : Code} {D : va_G} {A : Nat → Prop} {dT : Nat → ClassId} {a : Nat → Nat} {res : Int32 × MS} (C : Cx p s m args meth c cX12_storms 9 RX12 (some .int) D A dT) : ∀ (l1 : Int32) (l2 : Int32) (l3 : Int32) (l4 : Int32) (t0 : Int32) (z0 : MS), f_X12_storms_J47 l1 l2 l3 l4 t0 z0 = some res → WA p l e ({ frames := 5, cells := 0, slots := 0, locals := 120 } : Room) s m args below meth c (MQ below (QI D dT A ([wM dT a res.2]) res.1) args s 0 0 A) D A 0 0 9 47 ([wM dT a z0]) [(0, .ref (a 0)), (1, .int l1), (2, .int l2), (3, .int l3), (4, .int l4)] [.int t0, .ref (a 0)] := by
  intro l1 l2 l3 l4 t0 z0 hf
  unfold f_X12_storms_J47 at hf
  refine wa_iconst (v := 2) C 48 dX12_storms_47 rfl rfl ?_
  obtain ⟨q8, hq8, hf⟩ := bind_ex hf
  refine wa_callVAi (b1 := 0) (q1 := 0) (ci := 12) (As := [.int t0, .int (2 : Int32)]) C 51 dX12_storms_48 rfl kv_X12_257 (c_X12_right hq8) ⟨rfl, rfl⟩ ⟨Nat.le_of_ble_eq_true rfl, Nat.le_of_ble_eq_true rfl⟩ rfl rfl rfl rfl rfl ⟨Nat.zero_le _, Nat.zero_le _⟩ (Nat.le_of_ble_eq_true rfl) ?_
  refine wa_if_ne C 56 54 dX12_storms_51 rfl rfl (fun c9 => ?_) (fun c9 => ?_)
  · replace hf := ite_f hf c9
    refine wa_iconst (v := 0) C 57 dX12_storms_56 rfl rfl ?_
    refine wa_istore (lv' := [(0, .ref (a 0)), (1, .int l1), (2, .int l2), (3, .int l3), (4, .int l4), (5, .int (0 : Int32))]) C [1, 2, 3, 4, 5, 0] 59 dX12_storms_57 rfl (Nat.le_of_ble_eq_true rfl) rfl ?_
    refine wa_iconst (v := 0) C 60 dX12_storms_59 rfl rfl ?_
    refine wa_istore (lv' := [(0, .ref (a 0)), (1, .int l1), (2, .int l2), (3, .int l3), (4, .int l4), (5, .int (0 : Int32)), (6, .int (0 : Int32))]) C [1, 2, 3, 4, 5, 6, 0] 62 dX12_storms_60 rfl (Nat.le_of_ble_eq_true rfl) rfl ?_
    exact w_X12_storms_L62 C FUEL (0 : Int32) (0 : Int32) q8.2 hf
  · replace hf := ite_t hf c9
    refine wa_iconst (v := 0) C 55 dX12_storms_54 rfl rfl ?_
    cases hf
    exact wa_iret C dX12_storms_55 rfl rfl
set_option maxRecDepth 20000 in
theorem w_X12_storms_J46 {p : Program} {l : Launch} {e : Env} {s : State} {m : MethodId} {args : Array Value} {below : List Frame} {meth : Method} {c : Code} {D : va_G} {A : Nat → Prop} {dT : Nat → ClassId} {a : Nat → Nat} {res : Int32 × MS} (C : Cx p s m args meth c cX12_storms 9 RX12 (some .int) D A dT) : ∀ (l1 : Int32) (l2 : Int32) (l3 : Int32) (l4 : Int32) (z0 : MS), f_X12_storms_J46 l1 l2 l3 l4 z0 = some res → WA p l e ({ frames := 5, cells := 0, slots := 0, locals := 120 } : Room) s m args below meth c (MQ below (QI D dT A ([wM dT a res.2]) res.1) args s 0 0 A) D A 0 0 9 46 ([wM dT a z0]) [(0, .ref (a 0)), (1, .int l1), (2, .int l2), (3, .int l3), (4, .int l4)] [.ref (a 0)] := by
  intro l1 l2 l3 l4 z0 hf
  unfold f_X12_storms_J46 at hf
  refine wa_iconst (v := 0) C 47 dX12_storms_46 rfl rfl ?_
  exact w_X12_storms_J47 C l1 l2 l3 l4 (0 : Int32) z0 hf
set_option maxRecDepth 20000 in
theorem c_X12_storms {l : Launch} {D : va_G} {dT : Nat → ClassId} {a : Nat → Nat} {v : MS} {p0 : Int32} {p1 : Int32} {p2 : Int32} {p3 : Int32} {res : Int32 × MS} (hf : f_X12_storms v p0 p1 p2 p3 = some res) : CTi l yX12_storms cX12_storms 9 (some .int) ({ frames := 5, cells := 0, slots := 0, locals := 120 } : Room) D dT [.ref (a 0), .int p0, .int p1, .int p2, .int p3] ([wM dT a v]) ([wM dT a res.2]) res.1 := by
  refine CTi.of (by decide) (Nat.le_of_ble_eq_true rfl) rfl ?_
  intro p e s m args below meth c A C
  unfold f_X12_storms at hf
  refine wa_aload_n C 0 1 dX12_storms_0 rfl rfl ?_
  refine wa_iconst (v := 0) C 2 dX12_storms_1 rfl rfl ?_
  obtain ⟨y1, ey1, hf⟩ := bnd_ex hf
  refine wa_put (ws' := [wM dT a y1]) C 5 0 0 0 tyX12 dX12_storms_2 rfl iX12 tyX12_ok nmX12 q1449 rfl (Nat.le_of_ble_eq_true rfl) rfl rfl rfl rfl rfl (Nat.le_of_ble_eq_true rfl) (by rw [ey1]; rfl) ?_
  refine wa_aload_n C 0 6 dX12_storms_5 rfl rfl ?_
  refine wa_iload_n C 1 7 dX12_storms_6 rfl rfl ?_
  obtain ⟨q2, hq2, hf⟩ := bind_ex hf
  refine wa_callVAi (b1 := 0) (q1 := 0) (ci := 12) (As := [.int p0]) C 10 dX12_storms_7 rfl kv_X12_368 (c_X12_isPerson hq2) ⟨rfl, rfl⟩ ⟨Nat.le_of_ble_eq_true rfl, Nat.le_of_ble_eq_true rfl⟩ rfl rfl rfl rfl rfl ⟨Nat.zero_le _, Nat.zero_le _⟩ (Nat.le_of_ble_eq_true rfl) ?_
  refine wa_if_eq C 54 13 dX12_storms_10 rfl rfl (fun c3 => ?_) (fun c3 => ?_)
  · replace hf := ite_t hf c3
    refine wa_iconst (v := 0) C 55 dX12_storms_54 rfl rfl ?_
    cases hf
    exact wa_iret C dX12_storms_55 rfl rfl
  · replace hf := ite_f hf c3
    refine wa_aload_n C 0 14 dX12_storms_13 rfl rfl ?_
    refine wa_iload_n C 2 15 dX12_storms_14 rfl rfl ?_
    obtain ⟨q4, hq4, hf⟩ := bind_ex hf
    refine wa_callVAi (b1 := 0) (q1 := 0) (ci := 12) (As := [.int p1]) C 18 dX12_storms_15 rfl kv_X12_368 (c_X12_isPerson hq4) ⟨rfl, rfl⟩ ⟨Nat.le_of_ble_eq_true rfl, Nat.le_of_ble_eq_true rfl⟩ rfl rfl rfl rfl rfl ⟨Nat.zero_le _, Nat.zero_le _⟩ (Nat.le_of_ble_eq_true rfl) ?_
    refine wa_if_eq C 54 21 dX12_storms_18 rfl rfl (fun c5 => ?_) (fun c5 => ?_)
    · replace hf := ite_t hf c5
      refine wa_iconst (v := 0) C 55 dX12_storms_54 rfl rfl ?_
      cases hf
      exact wa_iret C dX12_storms_55 rfl rfl
    · replace hf := ite_f hf c5
      refine wa_aload_n C 0 22 dX12_storms_21 rfl rfl ?_
      refine wa_iload_n C 3 23 dX12_storms_22 rfl rfl ?_
      refine wa_iconst (v := 1) C 24 dX12_storms_23 rfl rfl ?_
      refine wa_iconst (v := 5) C 25 dX12_storms_24 rfl rfl ?_
      obtain ⟨q6, hq6, hf⟩ := bind_ex hf
      refine wa_callS0i (As := [.int p2, .int (1 : Int32), .int (5 : Int32)]) C 28 dX12_storms_25 rfl ks_X12_346 (c_X12_within hq6) ⟨rfl, rfl⟩ ⟨Nat.le_of_ble_eq_true rfl, Nat.le_of_ble_eq_true rfl⟩ rfl rfl ⟨Nat.zero_le _, Nat.zero_le _⟩ (Nat.le_of_ble_eq_true rfl) ?_
      refine wa_if_eq C 46 31 dX12_storms_28 rfl rfl (fun c7 => ?_) (fun c7 => ?_)
      · replace hf := ite_t hf c7
        exact w_X12_storms_J46 C p0 p1 p2 p3 q4.2 hf
      · replace hf := ite_f hf c7
        refine wa_iload C 4 33 dX12_storms_31 rfl rfl ?_
        refine wa_iconst (v := 0) C 34 dX12_storms_33 rfl rfl ?_
        refine wa_bipush (v := 10) C 36 dX12_storms_34 rfl rfl ?_
        obtain ⟨q27, hq27, hf⟩ := bind_ex hf
        refine wa_callS0i (As := [.int p3, .int (0 : Int32), .int (10 : Int32)]) C 39 dX12_storms_36 rfl ks_X12_346 (c_X12_within hq27) ⟨rfl, rfl⟩ ⟨Nat.le_of_ble_eq_true rfl, Nat.le_of_ble_eq_true rfl⟩ rfl rfl ⟨Nat.zero_le _, Nat.zero_le _⟩ (Nat.le_of_ble_eq_true rfl) ?_
        refine wa_if_eq C 46 42 dX12_storms_39 rfl rfl (fun c28 => ?_) (fun c28 => ?_)
        · replace hf := ite_t hf c28
          exact w_X12_storms_J46 C p0 p1 p2 p3 q4.2 hf
        · replace hf := ite_f hf c28
          refine wa_iconst (v := 1) C 43 dX12_storms_42 rfl rfl ?_
          refine wa_goto C 47 dX12_storms_43 rfl ?_
          exact w_X12_storms_J47 C p0 p1 p2 p3 (1 : Int32) q4.2 hf
def f_X12_gains (v : MS) (p0 : Int32) (p1 : Int32) (p2 : Int32) (p3 : Int32) : Option (Int32 × MS) := (f_X12_tries v).bind (fun q1 => bnd (upd q1.1 40 ((p2 <<< (p0 &&& 31)) ||| (p3 <<< (p1 &&& 31))), q1.2) (fun y2 => (f_X12_eveningsGo y2 (6 : Int32)).bind (fun q3 => grd (vi ((88 : Int32) + p0) 172) ((f_X12_sizeOf q3 (86 : Int32) (q3.2.2 10 (((88 : Int32) + p0)).toNatClampNeg)).bind (fun q5 => (f_X12_withOne q3 (86 : Int32) p0).bind (fun q6 => (f_X12_friendsOf q3 p0).bind (fun q7 => (f_X12_bits (q6 &&& q7)).bind (fun q8 => some (((q5 + q8) - p2), q3)))))))))
set_option maxRecDepth 20000 in
theorem c_X12_gains {l : Launch} {D : va_G} {dT : Nat → ClassId} {a : Nat → Nat} {v : MS} {p0 : Int32} {p1 : Int32} {p2 : Int32} {p3 : Int32} {res : Int32 × MS} (hf : f_X12_gains v p0 p1 p2 p3 = some res) : CTi l yX12_gains cX12_gains 5 (some .int) ({ frames := 6, cells := 0, slots := 0, locals := 142 } : Room) D dT [.ref (a 0), .int p0, .int p1, .int p2, .int p3] ([wM dT a v]) ([wM dT a res.2]) res.1 := by
  refine CTi.of (by decide) (Nat.le_of_ble_eq_true rfl) rfl ?_
  intro p e s m args below meth c A C
  unfold f_X12_gains at hf
  refine wa_aload_n C 0 1 dX12_gains_0 rfl rfl ?_
  obtain ⟨q1, hq1, hf⟩ := bind_ex hf
  refine wa_callVAv (b1 := 0) (q1 := 0) (ci := 12) (As := []) C 4 dX12_gains_1 rfl kv_X12_337 (c_X12_tries hq1) ⟨rfl, rfl⟩ ⟨Nat.le_of_ble_eq_true rfl, Nat.le_of_ble_eq_true rfl⟩ rfl rfl rfl rfl rfl ⟨Nat.zero_le _, Nat.zero_le _⟩ (Nat.le_of_ble_eq_true rfl) ?_
  refine wa_aload_n C 0 5 dX12_gains_4 rfl rfl ?_
  refine wa_iload_n C 3 6 dX12_gains_5 rfl rfl ?_
  refine wa_iload_n C 1 7 dX12_gains_6 rfl rfl ?_
  refine wa_ishl C 8 dX12_gains_7 rfl ?_
  refine wa_iload C 4 10 dX12_gains_8 rfl rfl ?_
  refine wa_iload_n C 2 11 dX12_gains_10 rfl rfl ?_
  refine wa_ishl C 12 dX12_gains_11 rfl ?_
  refine wa_ior C 13 dX12_gains_12 rfl ?_
  obtain ⟨y2, ey2, hf⟩ := bnd_ex hf
  refine wa_put (ws' := [wM dT a y2]) C 16 0 0 40 tyX12 dX12_gains_13 rfl iX12 tyX12_ok nmX12 q1489 rfl (Nat.le_of_ble_eq_true rfl) rfl rfl rfl rfl rfl (Nat.le_of_ble_eq_true rfl) (by rw [ey2]; rfl) ?_
  refine wa_aload_n C 0 17 dX12_gains_16 rfl rfl ?_
  refine wa_bipush (v := 6) C 19 dX12_gains_17 rfl rfl ?_
  obtain ⟨q3, hq3, hf⟩ := bind_ex hf
  refine wa_callVAv (b1 := 0) (q1 := 0) (ci := 12) (As := [.int (6 : Int32)]) C 22 dX12_gains_19 rfl kv_X12_340 (c_X12_eveningsGo hq3) ⟨rfl, rfl⟩ ⟨Nat.le_of_ble_eq_true rfl, Nat.le_of_ble_eq_true rfl⟩ rfl rfl rfl rfl rfl ⟨Nat.zero_le _, Nat.zero_le _⟩ (Nat.le_of_ble_eq_true rfl) ?_
  refine wa_aload_n C 0 23 dX12_gains_22 rfl rfl ?_
  refine wa_bipush (v := 86) C 25 dX12_gains_23 rfl rfl ?_
  refine wa_aload_n C 0 26 dX12_gains_25 rfl rfl ?_
  refine wa_get C 29 0 0 34 dX12_gains_26 rfl iX12 q1483 rfl (Nat.le_of_ble_eq_true rfl) rfl rfl rfl ?_
  refine wa_bipush (v := 88) C 31 dX12_gains_29 rfl rfl ?_
  refine wa_iload_n C 1 32 dX12_gains_31 rfl rfl ?_
  refine wa_iadd C 33 dX12_gains_32 rfl ?_
  obtain ⟨g4, hf⟩ := grd_ex hf
  refine wa_iald C 34 0 10 dX12_gains_33 rfl rfl rfl (vi_in g4) ?_
  obtain ⟨q5, hq5, hf⟩ := bind_ex hf
  refine wa_callVAi (b1 := 0) (q1 := 0) (ci := 12) (As := [.int (86 : Int32), .int (q3.2.2 10 (((88 : Int32) + p0)).toNatClampNeg)]) C 37 dX12_gains_34 rfl kv_X12_297 (c_X12_sizeOf hq5) ⟨rfl, rfl⟩ ⟨Nat.le_of_ble_eq_true rfl, Nat.le_of_ble_eq_true rfl⟩ rfl rfl rfl rfl rfl ⟨Nat.zero_le _, Nat.zero_le _⟩ (Nat.le_of_ble_eq_true rfl) ?_
  refine wa_aload_n C 0 38 dX12_gains_37 rfl rfl ?_
  refine wa_bipush (v := 86) C 40 dX12_gains_38 rfl rfl ?_
  refine wa_iload_n C 1 41 dX12_gains_40 rfl rfl ?_
  obtain ⟨q6, hq6, hf⟩ := bind_ex hf
  refine wa_callVAi (b1 := 0) (q1 := 0) (ci := 12) (As := [.int (86 : Int32), .int p0]) C 44 dX12_gains_41 rfl kv_X12_374 (c_X12_withOne hq6) ⟨rfl, rfl⟩ ⟨Nat.le_of_ble_eq_true rfl, Nat.le_of_ble_eq_true rfl⟩ rfl rfl rfl rfl rfl ⟨Nat.zero_le _, Nat.zero_le _⟩ (Nat.le_of_ble_eq_true rfl) ?_
  refine wa_aload_n C 0 45 dX12_gains_44 rfl rfl ?_
  refine wa_iload_n C 1 46 dX12_gains_45 rfl rfl ?_
  obtain ⟨q7, hq7, hf⟩ := bind_ex hf
  refine wa_callVAi (b1 := 0) (q1 := 0) (ci := 12) (As := [.int p0]) C 49 dX12_gains_46 rfl kv_X12_377 (c_X12_friendsOf hq7) ⟨rfl, rfl⟩ ⟨Nat.le_of_ble_eq_true rfl, Nat.le_of_ble_eq_true rfl⟩ rfl rfl rfl rfl rfl ⟨Nat.zero_le _, Nat.zero_le _⟩ (Nat.le_of_ble_eq_true rfl) ?_
  refine wa_iand C 50 dX12_gains_49 rfl ?_
  obtain ⟨q8, hq8, hf⟩ := bind_ex hf
  refine wa_callS0i (As := [.int (q6 &&& q7)]) C 53 dX12_gains_50 rfl ks_X12_291 (c_X12_bits hq8) ⟨rfl, rfl⟩ ⟨Nat.le_of_ble_eq_true rfl, Nat.le_of_ble_eq_true rfl⟩ rfl rfl ⟨Nat.zero_le _, Nat.zero_le _⟩ (Nat.le_of_ble_eq_true rfl) ?_
  refine wa_iadd C 54 dX12_gains_53 rfl ?_
  refine wa_iload_n C 3 55 dX12_gains_54 rfl rfl ?_
  refine wa_isub C 56 dX12_gains_55 rfl ?_
  cases hf
  exact wa_iret C dX12_gains_56 rfl rfl
theorem kv_X12_451 : KV RX12 451 yX12_gains cX12_gains 5 (some .int) 4 := KV.mk q2097 q2099 qs117 q13 q2100 ⟨by decide, by decide, by decide +kernel⟩
def f_X12_game_L59 (l1 : Int32) (l2 : Int32) (l3 : Int32) : Nat → Int32 → Int32 → Int32 → MS → Option (Int32 × MS)
  | 0, _, _, _, _ => none
  | n + 1, l4, l5, l6, z0 => (if (4 : Int32) ≤ l6 then (if l3 = 0 then some (l4, z0) else some (l5, z0)) else bnd (l6 / (2 : Int32)) (fun x13 => bnd (l6 - l6 / (2 : Int32) * (2 : Int32)) (fun x14 => (f_X12_gains z0 l1 l2 ((1 : Int32) - x13) x14).bind (fun q15 => (f_X12_gains q15.2 l1 l2 x13 x14).bind (fun q16 => (if q16.1 < q15.1 then bnd (l6 + 1) (fun x18 => f_X12_game_L59 l1 l2 l3 n l4 l5 x18 q16.2) else (f_X12_gains q16.2 l2 l1 ((1 : Int32) - x14) x13).bind (fun q19 => (f_X12_gains q19.2 l2 l1 x14 x13).bind (fun q20 => (if q19.1 ≤ q20.1 then bnd (l4 + 1) (fun x22 => (if l5 = (-1 : Int32) then bnd (((10 : Int32) * x13) + x14) (fun x25 => bnd (l6 + 1) (fun x26 => f_X12_game_L59 l1 l2 l3 n x22 x25 x26 q20.2)) else bnd (l6 + 1) (fun x24 => f_X12_game_L59 l1 l2 l3 n x22 l5 x24 q20.2))) else bnd (l6 + 1) (fun x27 => f_X12_game_L59 l1 l2 l3 n l4 l5 x27 q20.2))))))))))
def f_X12_game_J41 (l1 : Int32) (l2 : Int32) (l3 : Int32) (t0 : Int32) (z0 : MS) : Option (Int32 × MS) := (f_X12_right z0 t0 (2 : Int32)).bind (fun q9 => (if q9.1 = 0 then some ((0 : Int32), q9.2) else f_X12_game_L59 l1 l2 l3 FUEL (0 : Int32) (-1 : Int32) (0 : Int32) q9.2))
def f_X12_game (v : MS) (p0 : Int32) (p1 : Int32) (p2 : Int32) : Option (Int32 × MS) := bnd (upd v.1 0 (0 : Int32), v.2) (fun y1 => (f_X12_isPerson y1 p0).bind (fun q2 => (if q2.1 = 0 then some ((0 : Int32), q2.2) else (f_X12_isPerson q2.2 p1).bind (fun q4 => (if q4.1 = 0 then some ((0 : Int32), q4.2) else (f_X12_isWhat q4.2 p2 (1 : Int32)).bind (fun q6 => (if q6.1 = 0 then some ((0 : Int32), q6.2) else (if p0 = p1 then f_X12_game_J41 p0 p1 p2 (0 : Int32) q6.2 else f_X12_game_J41 p0 p1 p2 (1 : Int32) q6.2))))))))
set_option maxRecDepth 20000 in
theorem w_X12_game_L59 {p : Program} {l : Launch} {e : Env} {s : State} {m : MethodId} {args : Array Value} {below : List Frame} {meth : Method} {c : Code} {D : va_G} {A : Nat → Prop} {dT : Nat → ClassId} {a : Nat → Nat} {res : Int32 × MS} {l1 : Int32} {l2 : Int32} {l3 : Int32} (C : Cx p s m args meth c cX12_game 9 RX12 (some .int) D A dT) : ∀ (n : Nat) (l4 : Int32) (l5 : Int32) (l6 : Int32) (z0 : MS), f_X12_game_L59 l1 l2 l3 n l4 l5 l6 z0 = some res → WA p l e ({ frames := 7, cells := 0, slots := 0, locals := 166 } : Room) s m args below meth c (MQ below (QI D dT A ([wM dT a res.2]) res.1) args s 0 0 A) D A 0 0 9 59 ([wM dT a z0]) [(0, .ref (a 0)), (1, .int l1), (2, .int l2), (3, .int l3), (4, .int l4), (5, .int l5), (6, .int l6)] [] := by
  intro n
  induction n with
  | zero => intro l4 l5 l6 z0 hf; cases hf
  | succ n ih =>
    intro l4 l5 l6 z0 hf
    unfold f_X12_game_L59 at hf
    refine wa_iload C 6 61 dX12_game_59 rfl rfl ?_
    refine wa_iconst (v := 4) C 62 dX12_game_61 rfl rfl ?_
    refine wa_icmp_ge C 155 65 dX12_game_62 rfl rfl (fun c11 => ?_) (fun c11 => ?_)
    · replace hf := ite_t hf c11
      refine wa_iload_n C 3 156 dX12_game_155 rfl rfl ?_
      refine wa_if_ne C 164 159 dX12_game_156 rfl rfl (fun c12 => ?_) (fun c12 => ?_)
      · replace hf := ite_f hf c12
        refine wa_iload C 5 166 dX12_game_164 rfl rfl ?_
        cases hf
        exact wa_iret C dX12_game_166 rfl rfl
      · replace hf := ite_t hf c12
        refine wa_iload C 4 161 dX12_game_159 rfl rfl ?_
        refine wa_goto C 166 dX12_game_161 rfl ?_
        cases hf
        exact wa_iret C dX12_game_166 rfl rfl
    · replace hf := ite_f hf c11
      refine wa_iload C 6 67 dX12_game_65 rfl rfl ?_
      refine wa_iconst (v := 2) C 68 dX12_game_67 rfl rfl ?_
      refine wa_idiv C 69 dX12_game_68 rfl (by decide) ?_
      obtain ⟨x13, ex13, hf⟩ := bnd_ex hf
      refine wa_topi ex13 ?_
      refine wa_istore (lv' := [(0, .ref (a 0)), (1, .int l1), (2, .int l2), (3, .int l3), (4, .int l4), (5, .int l5), (6, .int l6), (7, .int x13)]) C [1, 2, 3, 4, 5, 6, 7, 0] 71 dX12_game_69 rfl (Nat.le_of_ble_eq_true rfl) rfl ?_
      refine wa_iload C 6 73 dX12_game_71 rfl rfl ?_
      refine wa_iconst (v := 2) C 74 dX12_game_73 rfl rfl ?_
      refine wa_irem C 75 dX12_game_74 rfl (by decide) ?_
      obtain ⟨x14, ex14, hf⟩ := bnd_ex hf
      refine wa_topi ex14 ?_
      refine wa_istore (lv' := [(0, .ref (a 0)), (1, .int l1), (2, .int l2), (3, .int l3), (4, .int l4), (5, .int l5), (6, .int l6), (7, .int x13), (8, .int x14)]) C [1, 2, 3, 4, 5, 6, 7, 8, 0] 77 dX12_game_75 rfl (Nat.le_of_ble_eq_true rfl) rfl ?_
      refine wa_aload_n C 0 78 dX12_game_77 rfl rfl ?_
      refine wa_iload_n C 1 79 dX12_game_78 rfl rfl ?_
      refine wa_iload_n C 2 80 dX12_game_79 rfl rfl ?_
      refine wa_iconst (v := 1) C 81 dX12_game_80 rfl rfl ?_
      refine wa_iload C 7 83 dX12_game_81 rfl rfl ?_
      refine wa_isub C 84 dX12_game_83 rfl ?_
      refine wa_iload C 8 86 dX12_game_84 rfl rfl ?_
      obtain ⟨q15, hq15, hf⟩ := bind_ex hf
      refine wa_callVAi (b1 := 0) (q1 := 0) (ci := 12) (As := [.int l1, .int l2, .int ((1 : Int32) - x13), .int x14]) C 89 dX12_game_86 rfl kv_X12_451 (c_X12_gains hq15) ⟨rfl, rfl⟩ ⟨Nat.le_of_ble_eq_true rfl, Nat.le_of_ble_eq_true rfl⟩ rfl rfl rfl rfl rfl ⟨Nat.zero_le _, Nat.zero_le _⟩ (Nat.le_of_ble_eq_true rfl) ?_
      refine wa_aload_n C 0 90 dX12_game_89 rfl rfl ?_
      refine wa_iload_n C 1 91 dX12_game_90 rfl rfl ?_
      refine wa_iload_n C 2 92 dX12_game_91 rfl rfl ?_
      refine wa_iload C 7 94 dX12_game_92 rfl rfl ?_
      refine wa_iload C 8 96 dX12_game_94 rfl rfl ?_
      obtain ⟨q16, hq16, hf⟩ := bind_ex hf
      refine wa_callVAi (b1 := 0) (q1 := 0) (ci := 12) (As := [.int l1, .int l2, .int x13, .int x14]) C 99 dX12_game_96 rfl kv_X12_451 (c_X12_gains hq16) ⟨rfl, rfl⟩ ⟨Nat.le_of_ble_eq_true rfl, Nat.le_of_ble_eq_true rfl⟩ rfl rfl rfl rfl rfl ⟨Nat.zero_le _, Nat.zero_le _⟩ (Nat.le_of_ble_eq_true rfl) ?_
      refine wa_icmp_gt C 149 102 dX12_game_99 rfl rfl (fun c17 => ?_) (fun c17 => ?_)
      · replace hf := ite_t hf c17
        obtain ⟨x18, ex18, hf⟩ := bnd_ex hf
        refine wa_iinc (v := x18) (lv' := [(0, .ref (a 0)), (1, .int l1), (2, .int l2), (3, .int l3), (4, .int l4), (5, .int l5), (6, .int x18), (7, .int x13), (8, .int x14)]) C 6 [1, 2, 3, 4, 5, 6, 0, 7, 8] 152 dX12_game_149 rfl rfl (by rw [ex18]; rfl) (Nat.le_of_ble_eq_true rfl) rfl ?_
        refine wa_goto C 59 dX12_game_152 rfl ?_
        refine wa_lv (lv' := [(0, .ref (a 0)), (1, .int l1), (2, .int l2), (3, .int l3), (4, .int l4), (5, .int l5), (6, .int x18)]) [0, 1, 2, 3, 4, 5, 6] rfl ?_
        exact ih l4 l5 x18 q16.2 hf
      · replace hf := ite_f hf c17
        refine wa_aload_n C 0 103 dX12_game_102 rfl rfl ?_
        refine wa_iload_n C 2 104 dX12_game_103 rfl rfl ?_
        refine wa_iload_n C 1 105 dX12_game_104 rfl rfl ?_
        refine wa_iconst (v := 1) C 106 dX12_game_105 rfl rfl ?_
        refine wa_iload C 8 108 dX12_game_106 rfl rfl ?_
        refine wa_isub C 109 dX12_game_108 rfl ?_
        refine wa_iload C 7 111 dX12_game_109 rfl rfl ?_
        obtain ⟨q19, hq19, hf⟩ := bind_ex hf
        refine wa_callVAi (b1 := 0) (q1 := 0) (ci := 12) (As := [.int l2, .int l1, .int ((1 : Int32) - x14), .int x13]) C 114 dX12_game_111 rfl kv_X12_451 (c_X12_gains hq19) ⟨rfl, rfl⟩ ⟨Nat.le_of_ble_eq_true rfl, Nat.le_of_ble_eq_true rfl⟩ rfl rfl rfl rfl rfl ⟨Nat.zero_le _, Nat.zero_le _⟩ (Nat.le_of_ble_eq_true rfl) ?_
        refine wa_aload_n C 0 115 dX12_game_114 rfl rfl ?_
        refine wa_iload_n C 2 116 dX12_game_115 rfl rfl ?_
        refine wa_iload_n C 1 117 dX12_game_116 rfl rfl ?_
        refine wa_iload C 8 119 dX12_game_117 rfl rfl ?_
        refine wa_iload C 7 121 dX12_game_119 rfl rfl ?_
        obtain ⟨q20, hq20, hf⟩ := bind_ex hf
        refine wa_callVAi (b1 := 0) (q1 := 0) (ci := 12) (As := [.int l2, .int l1, .int x14, .int x13]) C 124 dX12_game_121 rfl kv_X12_451 (c_X12_gains hq20) ⟨rfl, rfl⟩ ⟨Nat.le_of_ble_eq_true rfl, Nat.le_of_ble_eq_true rfl⟩ rfl rfl rfl rfl rfl ⟨Nat.zero_le _, Nat.zero_le _⟩ (Nat.le_of_ble_eq_true rfl) ?_
        refine wa_icmp_le C 130 127 dX12_game_124 rfl rfl (fun c21 => ?_) (fun c21 => ?_)
        · replace hf := ite_t hf c21
          obtain ⟨x22, ex22, hf⟩ := bnd_ex hf
          refine wa_iinc (v := x22) (lv' := [(0, .ref (a 0)), (1, .int l1), (2, .int l2), (3, .int l3), (4, .int x22), (5, .int l5), (6, .int l6), (7, .int x13), (8, .int x14)]) C 4 [1, 2, 3, 4, 0, 5, 6, 7, 8] 133 dX12_game_130 rfl rfl (by rw [ex22]; rfl) (Nat.le_of_ble_eq_true rfl) rfl ?_
          refine wa_iload C 5 135 dX12_game_133 rfl rfl ?_
          refine wa_iconst (v := (-1)) C 136 dX12_game_135 rfl rfl ?_
          refine wa_icmp_ne C 149 139 dX12_game_136 rfl rfl (fun c23 => ?_) (fun c23 => ?_)
          · replace hf := ite_f hf c23
            obtain ⟨x24, ex24, hf⟩ := bnd_ex hf
            refine wa_iinc (v := x24) (lv' := [(0, .ref (a 0)), (1, .int l1), (2, .int l2), (3, .int l3), (4, .int x22), (5, .int l5), (6, .int x24), (7, .int x13), (8, .int x14)]) C 6 [1, 2, 3, 4, 5, 6, 0, 7, 8] 152 dX12_game_149 rfl rfl (by rw [ex24]; rfl) (Nat.le_of_ble_eq_true rfl) rfl ?_
            refine wa_goto C 59 dX12_game_152 rfl ?_
            refine wa_lv (lv' := [(0, .ref (a 0)), (1, .int l1), (2, .int l2), (3, .int l3), (4, .int x22), (5, .int l5), (6, .int x24)]) [0, 1, 2, 3, 4, 5, 6] rfl ?_
            exact ih x22 l5 x24 q20.2 hf
          · replace hf := ite_t hf c23
            refine wa_bipush (v := 10) C 141 dX12_game_139 rfl rfl ?_
            refine wa_iload C 7 143 dX12_game_141 rfl rfl ?_
            refine wa_imul C 144 dX12_game_143 rfl ?_
            refine wa_iload C 8 146 dX12_game_144 rfl rfl ?_
            refine wa_iadd C 147 dX12_game_146 rfl ?_
            obtain ⟨x25, ex25, hf⟩ := bnd_ex hf
            refine wa_topi ex25 ?_
            refine wa_istore (lv' := [(0, .ref (a 0)), (1, .int l1), (2, .int l2), (3, .int l3), (4, .int x22), (5, .int x25), (6, .int l6), (7, .int x13), (8, .int x14)]) C [1, 2, 3, 4, 5, 0, 6, 7, 8] 149 dX12_game_147 rfl (Nat.le_of_ble_eq_true rfl) rfl ?_
            obtain ⟨x26, ex26, hf⟩ := bnd_ex hf
            refine wa_iinc (v := x26) (lv' := [(0, .ref (a 0)), (1, .int l1), (2, .int l2), (3, .int l3), (4, .int x22), (5, .int x25), (6, .int x26), (7, .int x13), (8, .int x14)]) C 6 [1, 2, 3, 4, 5, 6, 0, 7, 8] 152 dX12_game_149 rfl rfl (by rw [ex26]; rfl) (Nat.le_of_ble_eq_true rfl) rfl ?_
            refine wa_goto C 59 dX12_game_152 rfl ?_
            refine wa_lv (lv' := [(0, .ref (a 0)), (1, .int l1), (2, .int l2), (3, .int l3), (4, .int x22), (5, .int x25), (6, .int x26)]) [0, 1, 2, 3, 4, 5, 6] rfl ?_
            exact ih x22 x25 x26 q20.2 hf
        · replace hf := ite_f hf c21
          refine wa_goto C 149 dX12_game_127 rfl ?_
          obtain ⟨x27, ex27, hf⟩ := bnd_ex hf
          refine wa_iinc (v := x27) (lv' := [(0, .ref (a 0)), (1, .int l1), (2, .int l2), (3, .int l3), (4, .int l4), (5, .int l5), (6, .int x27), (7, .int x13), (8, .int x14)]) C 6 [1, 2, 3, 4, 5, 6, 0, 7, 8] 152 dX12_game_149 rfl rfl (by rw [ex27]; rfl) (Nat.le_of_ble_eq_true rfl) rfl ?_
          refine wa_goto C 59 dX12_game_152 rfl ?_
          refine wa_lv (lv' := [(0, .ref (a 0)), (1, .int l1), (2, .int l2), (3, .int l3), (4, .int l4), (5, .int l5), (6, .int x27)]) [0, 1, 2, 3, 4, 5, 6] rfl ?_
          exact ih l4 l5 x27 q20.2 hf
set_option maxRecDepth 20000 in
theorem w_X12_game_J41 {p : Program} {l : Launch} {e : Env} {s : State} {m : MethodId} {args : Array Value} {below : List Frame} {meth : Method} {c : Code} {D : va_G} {A : Nat → Prop} {dT : Nat → ClassId} {a : Nat → Nat} {res : Int32 × MS} (C : Cx p s m args meth c cX12_game 9 RX12 (some .int) D A dT) : ∀ (l1 : Int32) (l2 : Int32) (l3 : Int32) (t0 : Int32) (z0 : MS), f_X12_game_J41 l1 l2 l3 t0 z0 = some res → WA p l e ({ frames := 7, cells := 0, slots := 0, locals := 166 } : Room) s m args below meth c (MQ below (QI D dT A ([wM dT a res.2]) res.1) args s 0 0 A) D A 0 0 9 41 ([wM dT a z0]) [(0, .ref (a 0)), (1, .int l1), (2, .int l2), (3, .int l3)] [.int t0, .ref (a 0)] := by
  intro l1 l2 l3 t0 z0 hf
  unfold f_X12_game_J41 at hf
  refine wa_iconst (v := 2) C 42 dX12_game_41 rfl rfl ?_
  obtain ⟨q9, hq9, hf⟩ := bind_ex hf
  refine wa_callVAi (b1 := 0) (q1 := 0) (ci := 12) (As := [.int t0, .int (2 : Int32)]) C 45 dX12_game_42 rfl kv_X12_257 (c_X12_right hq9) ⟨rfl, rfl⟩ ⟨Nat.le_of_ble_eq_true rfl, Nat.le_of_ble_eq_true rfl⟩ rfl rfl rfl rfl rfl ⟨Nat.zero_le _, Nat.zero_le _⟩ (Nat.le_of_ble_eq_true rfl) ?_
  refine wa_if_ne C 50 48 dX12_game_45 rfl rfl (fun c10 => ?_) (fun c10 => ?_)
  · replace hf := ite_f hf c10
    refine wa_iconst (v := 0) C 51 dX12_game_50 rfl rfl ?_
    refine wa_istore (lv' := [(0, .ref (a 0)), (1, .int l1), (2, .int l2), (3, .int l3), (4, .int (0 : Int32))]) C [1, 2, 3, 4, 0] 53 dX12_game_51 rfl (Nat.le_of_ble_eq_true rfl) rfl ?_
    refine wa_iconst (v := (-1)) C 54 dX12_game_53 rfl rfl ?_
    refine wa_istore (lv' := [(0, .ref (a 0)), (1, .int l1), (2, .int l2), (3, .int l3), (4, .int (0 : Int32)), (5, .int (-1 : Int32))]) C [1, 2, 3, 4, 5, 0] 56 dX12_game_54 rfl (Nat.le_of_ble_eq_true rfl) rfl ?_
    refine wa_iconst (v := 0) C 57 dX12_game_56 rfl rfl ?_
    refine wa_istore (lv' := [(0, .ref (a 0)), (1, .int l1), (2, .int l2), (3, .int l3), (4, .int (0 : Int32)), (5, .int (-1 : Int32)), (6, .int (0 : Int32))]) C [1, 2, 3, 4, 5, 6, 0] 59 dX12_game_57 rfl (Nat.le_of_ble_eq_true rfl) rfl ?_
    exact w_X12_game_L59 C FUEL (0 : Int32) (-1 : Int32) (0 : Int32) q9.2 hf
  · replace hf := ite_t hf c10
    refine wa_iconst (v := 0) C 49 dX12_game_48 rfl rfl ?_
    cases hf
    exact wa_iret C dX12_game_49 rfl rfl
set_option maxRecDepth 20000 in
theorem c_X12_game {l : Launch} {D : va_G} {dT : Nat → ClassId} {a : Nat → Nat} {v : MS} {p0 : Int32} {p1 : Int32} {p2 : Int32} {res : Int32 × MS} (hf : f_X12_game v p0 p1 p2 = some res) : CTi l yX12_game cX12_game 9 (some .int) ({ frames := 7, cells := 0, slots := 0, locals := 166 } : Room) D dT [.ref (a 0), .int p0, .int p1, .int p2] ([wM dT a v]) ([wM dT a res.2]) res.1 := by
  refine CTi.of (by decide) (Nat.le_of_ble_eq_true rfl) rfl ?_
  intro p e s m args below meth c A C
  unfold f_X12_game at hf
  refine wa_aload_n C 0 1 dX12_game_0 rfl rfl ?_
  refine wa_iconst (v := 0) C 2 dX12_game_1 rfl rfl ?_
  obtain ⟨y1, ey1, hf⟩ := bnd_ex hf
  refine wa_put (ws' := [wM dT a y1]) C 5 0 0 0 tyX12 dX12_game_2 rfl iX12 tyX12_ok nmX12 q1449 rfl (Nat.le_of_ble_eq_true rfl) rfl rfl rfl rfl rfl (Nat.le_of_ble_eq_true rfl) (by rw [ey1]; rfl) ?_
  refine wa_aload_n C 0 6 dX12_game_5 rfl rfl ?_
  refine wa_iload_n C 1 7 dX12_game_6 rfl rfl ?_
  obtain ⟨q2, hq2, hf⟩ := bind_ex hf
  refine wa_callVAi (b1 := 0) (q1 := 0) (ci := 12) (As := [.int p0]) C 10 dX12_game_7 rfl kv_X12_368 (c_X12_isPerson hq2) ⟨rfl, rfl⟩ ⟨Nat.le_of_ble_eq_true rfl, Nat.le_of_ble_eq_true rfl⟩ rfl rfl rfl rfl rfl ⟨Nat.zero_le _, Nat.zero_le _⟩ (Nat.le_of_ble_eq_true rfl) ?_
  refine wa_if_eq C 48 13 dX12_game_10 rfl rfl (fun c3 => ?_) (fun c3 => ?_)
  · replace hf := ite_t hf c3
    refine wa_iconst (v := 0) C 49 dX12_game_48 rfl rfl ?_
    cases hf
    exact wa_iret C dX12_game_49 rfl rfl
  · replace hf := ite_f hf c3
    refine wa_aload_n C 0 14 dX12_game_13 rfl rfl ?_
    refine wa_iload_n C 2 15 dX12_game_14 rfl rfl ?_
    obtain ⟨q4, hq4, hf⟩ := bind_ex hf
    refine wa_callVAi (b1 := 0) (q1 := 0) (ci := 12) (As := [.int p1]) C 18 dX12_game_15 rfl kv_X12_368 (c_X12_isPerson hq4) ⟨rfl, rfl⟩ ⟨Nat.le_of_ble_eq_true rfl, Nat.le_of_ble_eq_true rfl⟩ rfl rfl rfl rfl rfl ⟨Nat.zero_le _, Nat.zero_le _⟩ (Nat.le_of_ble_eq_true rfl) ?_
    refine wa_if_eq C 48 21 dX12_game_18 rfl rfl (fun c5 => ?_) (fun c5 => ?_)
    · replace hf := ite_t hf c5
      refine wa_iconst (v := 0) C 49 dX12_game_48 rfl rfl ?_
      cases hf
      exact wa_iret C dX12_game_49 rfl rfl
    · replace hf := ite_f hf c5
      refine wa_aload_n C 0 22 dX12_game_21 rfl rfl ?_
      refine wa_iload_n C 3 23 dX12_game_22 rfl rfl ?_
      refine wa_iconst (v := 1) C 24 dX12_game_23 rfl rfl ?_
      obtain ⟨q6, hq6, hf⟩ := bind_ex hf
      refine wa_callVAi (b1 := 0) (q1 := 0) (ci := 12) (As := [.int p2, .int (1 : Int32)]) C 27 dX12_game_24 rfl kv_X12_371 (c_X12_isWhat hq6) ⟨rfl, rfl⟩ ⟨Nat.le_of_ble_eq_true rfl, Nat.le_of_ble_eq_true rfl⟩ rfl rfl rfl rfl rfl ⟨Nat.zero_le _, Nat.zero_le _⟩ (Nat.le_of_ble_eq_true rfl) ?_
      refine wa_if_eq C 48 30 dX12_game_27 rfl rfl (fun c7 => ?_) (fun c7 => ?_)
      · replace hf := ite_t hf c7
        refine wa_iconst (v := 0) C 49 dX12_game_48 rfl rfl ?_
        cases hf
        exact wa_iret C dX12_game_49 rfl rfl
      · replace hf := ite_f hf c7
        refine wa_aload_n C 0 31 dX12_game_30 rfl rfl ?_
        refine wa_iload_n C 1 32 dX12_game_31 rfl rfl ?_
        refine wa_iload_n C 2 33 dX12_game_32 rfl rfl ?_
        refine wa_icmp_eq C 40 36 dX12_game_33 rfl rfl (fun c8 => ?_) (fun c8 => ?_)
        · replace hf := ite_t hf c8
          refine wa_iconst (v := 0) C 41 dX12_game_40 rfl rfl ?_
          exact w_X12_game_J41 C p0 p1 p2 (0 : Int32) q6.2 hf
        · replace hf := ite_f hf c8
          refine wa_iconst (v := 1) C 37 dX12_game_36 rfl rfl ?_
          refine wa_goto C 41 dX12_game_37 rfl ?_
          exact w_X12_game_J41 C p0 p1 p2 (1 : Int32) q6.2 hf
def f_X12_draw (v : MS) (p0 : Int32) : Option (Int32 × MS) := bnd (upd v.1 52 (((v.1 52) * (1103515245 : Int32)) + (12345 : Int32)), v.2) (fun y1 => grd (decide (¬ p0 = 0)) (some (((((y1.1 52) >>> ((16 : Int32) &&& 31)) &&& (32767 : Int32)) - (((y1.1 52) >>> ((16 : Int32) &&& 31)) &&& (32767 : Int32)) / p0 * p0), y1)))
set_option maxRecDepth 20000 in
theorem c_X12_draw {l : Launch} {D : va_G} {dT : Nat → ClassId} {a : Nat → Nat} {v : MS} {p0 : Int32} {res : Int32 × MS} (hf : f_X12_draw v p0 = some res) : CTi l yX12_draw cX12_draw 2 (some .int) ({ frames := 0, cells := 0, slots := 0, locals := 0 } : Room) D dT [.ref (a 0), .int p0] ([wM dT a v]) ([wM dT a res.2]) res.1 := by
  refine CTi.of (by decide) (Nat.le_of_ble_eq_true rfl) rfl ?_
  intro p e s m args below meth c A C
  unfold f_X12_draw at hf
  refine wa_aload_n C 0 1 dX12_draw_0 rfl rfl ?_
  refine wa_aload_n C 0 2 dX12_draw_1 rfl rfl ?_
  refine wa_get C 5 0 0 52 dX12_draw_2 rfl iX12 q1501 rfl (Nat.le_of_ble_eq_true rfl) rfl rfl rfl ?_
  refine wa_ldcw (v := 1103515245) C 8 dX12_draw_5 rfl q2113 ?_
  refine wa_imul C 9 dX12_draw_8 rfl ?_
  refine wa_sipush (v := 12345) C 12 dX12_draw_9 rfl rfl ?_
  refine wa_iadd C 13 dX12_draw_12 rfl ?_
  obtain ⟨y1, ey1, hf⟩ := bnd_ex hf
  refine wa_put (ws' := [wM dT a y1]) C 16 0 0 52 tyX12 dX12_draw_13 rfl iX12 tyX12_ok nmX12 q1501 rfl (Nat.le_of_ble_eq_true rfl) rfl rfl rfl rfl rfl (Nat.le_of_ble_eq_true rfl) (by rw [ey1]; rfl) ?_
  refine wa_aload_n C 0 17 dX12_draw_16 rfl rfl ?_
  refine wa_get C 20 0 0 52 dX12_draw_17 rfl iX12 q1501 rfl (Nat.le_of_ble_eq_true rfl) rfl rfl rfl ?_
  refine wa_bipush (v := 16) C 22 dX12_draw_20 rfl rfl ?_
  refine wa_ishr C 23 dX12_draw_22 rfl ?_
  refine wa_sipush (v := 32767) C 26 dX12_draw_23 rfl rfl ?_
  refine wa_iand C 27 dX12_draw_26 rfl ?_
  refine wa_iload_n C 1 28 dX12_draw_27 rfl rfl ?_
  obtain ⟨g2, hf⟩ := grd_ex hf
  refine wa_irem C 29 dX12_draw_28 rfl (of_decide_eq_true g2) ?_
  cases hf
  exact wa_iret C dX12_draw_29 rfl rfl
theorem kv_X12_459 : KV RX12 459 yX12_draw cX12_draw 2 (some .int) 1 := KV.mk q2109 q2111 qs119 q13 q2112 ⟨by decide, by decide, by decide +kernel⟩
def f_X12_happens (v : MS) : Option (MS) := (f_X12_draw v (6 : Int32)).bind (fun q1 => (if (2 : Int32) < q1.1 then some (q1.2) else (if (q1.2.1 1) = 0 then some (q1.2) else (if q1.1 = (2 : Int32) then grd (vi (87 : Int32) 172) ((f_X12_draw q1.2 (q1.2.2.2 10 ((87 : Int32)).toNatClampNeg)).bind (fun q14 => (if q14.1 ≤ 0 then some (q14.2) else (f_X12_joins q14.2 (86 : Int32) q14.1 (0 : Int32)).bind (fun q16 => some (q16))))) else (f_X12_draw q1.2 (q1.2.1 1)).bind (fun q5 => (if q1.1 = (1 : Int32) then (f_X12_draw q5.2 (10 : Int32)).bind (fun q10 => grd (vi ((136 : Int32) + q5.1) 172) (bnd (q10.2.1, q10.2.2.1, uA q10.2.2.2 10 (((136 : Int32) + q5.1)).toNatClampNeg q10.1) (fun y12 => some (y12)))) else (f_X12_withOne q5.2 (86 : Int32) q5.1).bind (fun q7 => (if q7 = 0 then some (q5.2) else (f_X12_foundsBy q5.2 (86 : Int32) q5.1).bind (fun q9 => some (q9))))))))))
set_option maxRecDepth 20000 in
theorem c_X12_happens {l : Launch} {D : va_G} {dT : Nat → ClassId} {a : Nat → Nat} {v : MS} {res : MS} (hf : f_X12_happens v = some res) : CTv l yX12_happens cX12_happens 3 none ({ frames := 3, cells := 0, slots := 0, locals := 74 } : Room) D dT [.ref (a 0)] ([wM dT a v]) ([wM dT a res]) := by
  refine CTv.of (by decide) (Nat.le_of_ble_eq_true rfl) rfl ?_
  intro p e s m args below meth c A C
  unfold f_X12_happens at hf
  refine wa_aload_n C 0 1 dX12_happens_0 rfl rfl ?_
  refine wa_bipush (v := 6) C 3 dX12_happens_1 rfl rfl ?_
  obtain ⟨q1, hq1, hf⟩ := bind_ex hf
  refine wa_callVAi (b1 := 0) (q1 := 0) (ci := 12) (As := [.int (6 : Int32)]) C 6 dX12_happens_3 rfl kv_X12_459 (c_X12_draw hq1) ⟨rfl, rfl⟩ ⟨Nat.le_of_ble_eq_true rfl, Nat.le_of_ble_eq_true rfl⟩ rfl rfl rfl rfl rfl ⟨Nat.zero_le _, Nat.zero_le _⟩ (Nat.le_of_ble_eq_true rfl) ?_
  refine wa_istore_n (lv' := [(0, .ref (a 0)), (1, .int q1.1)]) C [1, 0] 7 dX12_happens_6 rfl (Nat.le_of_ble_eq_true rfl) rfl ?_
  refine wa_iload_n C 1 8 dX12_happens_7 rfl rfl ?_
  refine wa_iconst (v := 2) C 9 dX12_happens_8 rfl rfl ?_
  refine wa_icmp_gt C 19 12 dX12_happens_9 rfl rfl (fun c2 => ?_) (fun c2 => ?_)
  · replace hf := ite_t hf c2
    cases hf
    exact wa_vret C dX12_happens_19 rfl
  · replace hf := ite_f hf c2
    refine wa_aload_n C 0 13 dX12_happens_12 rfl rfl ?_
    refine wa_get C 16 0 0 1 dX12_happens_13 rfl iX12 q1450 rfl (Nat.le_of_ble_eq_true rfl) rfl rfl rfl ?_
    refine wa_if_ne C 20 19 dX12_happens_16 rfl rfl (fun c3 => ?_) (fun c3 => ?_)
    · replace hf := ite_f hf c3
      refine wa_iload_n C 1 21 dX12_happens_20 rfl rfl ?_
      refine wa_iconst (v := 2) C 22 dX12_happens_21 rfl rfl ?_
      refine wa_icmp_ne C 50 25 dX12_happens_22 rfl rfl (fun c4 => ?_) (fun c4 => ?_)
      · replace hf := ite_f hf c4
        refine wa_aload_n C 0 51 dX12_happens_50 rfl rfl ?_
        refine wa_aload_n C 0 52 dX12_happens_51 rfl rfl ?_
        refine wa_get C 55 0 0 1 dX12_happens_52 rfl iX12 q1450 rfl (Nat.le_of_ble_eq_true rfl) rfl rfl rfl ?_
        obtain ⟨q5, hq5, hf⟩ := bind_ex hf
        refine wa_callVAi (b1 := 0) (q1 := 0) (ci := 12) (As := [.int (q1.2.1 1)]) C 58 dX12_happens_55 rfl kv_X12_459 (c_X12_draw hq5) ⟨rfl, rfl⟩ ⟨Nat.le_of_ble_eq_true rfl, Nat.le_of_ble_eq_true rfl⟩ rfl rfl rfl rfl rfl ⟨Nat.zero_le _, Nat.zero_le _⟩ (Nat.le_of_ble_eq_true rfl) ?_
        refine wa_istore_n (lv' := [(0, .ref (a 0)), (1, .int q1.1), (2, .int q5.1)]) C [1, 2, 0] 59 dX12_happens_58 rfl (Nat.le_of_ble_eq_true rfl) rfl ?_
        refine wa_iload_n C 1 60 dX12_happens_59 rfl rfl ?_
        refine wa_iconst (v := 1) C 61 dX12_happens_60 rfl rfl ?_
        refine wa_icmp_ne C 83 64 dX12_happens_61 rfl rfl (fun c6 => ?_) (fun c6 => ?_)
        · replace hf := ite_f hf c6
          refine wa_aload_n C 0 84 dX12_happens_83 rfl rfl ?_
          refine wa_bipush (v := 86) C 86 dX12_happens_84 rfl rfl ?_
          refine wa_iload_n C 2 87 dX12_happens_86 rfl rfl ?_
          obtain ⟨q7, hq7, hf⟩ := bind_ex hf
          refine wa_callVAi (b1 := 0) (q1 := 0) (ci := 12) (As := [.int (86 : Int32), .int q5.1]) C 90 dX12_happens_87 rfl kv_X12_374 (c_X12_withOne hq7) ⟨rfl, rfl⟩ ⟨Nat.le_of_ble_eq_true rfl, Nat.le_of_ble_eq_true rfl⟩ rfl rfl rfl rfl rfl ⟨Nat.zero_le _, Nat.zero_le _⟩ (Nat.le_of_ble_eq_true rfl) ?_
          refine wa_if_eq C 100 93 dX12_happens_90 rfl rfl (fun c8 => ?_) (fun c8 => ?_)
          · replace hf := ite_t hf c8
            cases hf
            exact wa_vret C dX12_happens_100 rfl
          · replace hf := ite_f hf c8
            refine wa_aload_n C 0 94 dX12_happens_93 rfl rfl ?_
            refine wa_bipush (v := 86) C 96 dX12_happens_94 rfl rfl ?_
            refine wa_iload_n C 2 97 dX12_happens_96 rfl rfl ?_
            obtain ⟨q9, hq9, hf⟩ := bind_ex hf
            refine wa_callVAv (b1 := 0) (q1 := 0) (ci := 12) (As := [.int (86 : Int32), .int q5.1]) C 100 dX12_happens_97 rfl kv_X12_396 (c_X12_foundsBy hq9) ⟨rfl, rfl⟩ ⟨Nat.le_of_ble_eq_true rfl, Nat.le_of_ble_eq_true rfl⟩ rfl rfl rfl rfl rfl ⟨Nat.zero_le _, Nat.zero_le _⟩ (Nat.le_of_ble_eq_true rfl) ?_
            cases hf
            exact wa_vret C dX12_happens_100 rfl
        · replace hf := ite_t hf c6
          refine wa_aload_n C 0 65 dX12_happens_64 rfl rfl ?_
          refine wa_get C 68 0 0 34 dX12_happens_65 rfl iX12 q1483 rfl (Nat.le_of_ble_eq_true rfl) rfl rfl rfl ?_
          refine wa_sipush (v := 136) C 71 dX12_happens_68 rfl rfl ?_
          refine wa_iload_n C 2 72 dX12_happens_71 rfl rfl ?_
          refine wa_iadd C 73 dX12_happens_72 rfl ?_
          refine wa_aload_n C 0 74 dX12_happens_73 rfl rfl ?_
          refine wa_bipush (v := 10) C 76 dX12_happens_74 rfl rfl ?_
          obtain ⟨q10, hq10, hf⟩ := bind_ex hf
          refine wa_callVAi (b1 := 0) (q1 := 0) (ci := 12) (As := [.int (10 : Int32)]) C 79 dX12_happens_76 rfl kv_X12_459 (c_X12_draw hq10) ⟨rfl, rfl⟩ ⟨Nat.le_of_ble_eq_true rfl, Nat.le_of_ble_eq_true rfl⟩ rfl rfl rfl rfl rfl ⟨Nat.zero_le _, Nat.zero_le _⟩ (Nat.le_of_ble_eq_true rfl) ?_
          obtain ⟨g11, hf⟩ := grd_ex hf
          obtain ⟨y12, ey12, hf⟩ := bnd_ex hf
          refine wa_iast (ws' := [wM dT a y12]) C 80 0 10 dX12_happens_79 rfl rfl rfl (vi_in g11) (by rw [ey12]; rfl) ?_
          refine wa_goto C 100 dX12_happens_80 rfl ?_
          cases hf
          exact wa_vret C dX12_happens_100 rfl
      · replace hf := ite_t hf c4
        refine wa_aload_n C 0 26 dX12_happens_25 rfl rfl ?_
        refine wa_aload_n C 0 27 dX12_happens_26 rfl rfl ?_
        refine wa_get C 30 0 0 34 dX12_happens_27 rfl iX12 q1483 rfl (Nat.le_of_ble_eq_true rfl) rfl rfl rfl ?_
        refine wa_bipush (v := 87) C 32 dX12_happens_30 rfl rfl ?_
        obtain ⟨g13, hf⟩ := grd_ex hf
        refine wa_iald C 33 0 10 dX12_happens_32 rfl rfl rfl (vi_in g13) ?_
        obtain ⟨q14, hq14, hf⟩ := bind_ex hf
        refine wa_callVAi (b1 := 0) (q1 := 0) (ci := 12) (As := [.int (q1.2.2.2 10 ((87 : Int32)).toNatClampNeg)]) C 36 dX12_happens_33 rfl kv_X12_459 (c_X12_draw hq14) ⟨rfl, rfl⟩ ⟨Nat.le_of_ble_eq_true rfl, Nat.le_of_ble_eq_true rfl⟩ rfl rfl rfl rfl rfl ⟨Nat.zero_le _, Nat.zero_le _⟩ (Nat.le_of_ble_eq_true rfl) ?_
        refine wa_istore_n (lv' := [(0, .ref (a 0)), (1, .int q1.1), (2, .int q14.1)]) C [1, 2, 0] 37 dX12_happens_36 rfl (Nat.le_of_ble_eq_true rfl) rfl ?_
        refine wa_iload_n C 2 38 dX12_happens_37 rfl rfl ?_
        refine wa_if_le C 49 41 dX12_happens_38 rfl rfl (fun c15 => ?_) (fun c15 => ?_)
        · replace hf := ite_t hf c15
          cases hf
          exact wa_vret C dX12_happens_49 rfl
        · replace hf := ite_f hf c15
          refine wa_aload_n C 0 42 dX12_happens_41 rfl rfl ?_
          refine wa_bipush (v := 86) C 44 dX12_happens_42 rfl rfl ?_
          refine wa_iload_n C 2 45 dX12_happens_44 rfl rfl ?_
          refine wa_iconst (v := 0) C 46 dX12_happens_45 rfl rfl ?_
          obtain ⟨q16, hq16, hf⟩ := bind_ex hf
          refine wa_callVAv (b1 := 0) (q1 := 0) (ci := 12) (As := [.int (86 : Int32), .int q14.1, .int (0 : Int32)]) C 49 dX12_happens_46 rfl kv_X12_399 (c_X12_joins hq16) ⟨rfl, rfl⟩ ⟨Nat.le_of_ble_eq_true rfl, Nat.le_of_ble_eq_true rfl⟩ rfl rfl rfl rfl rfl ⟨Nat.zero_le _, Nat.zero_le _⟩ (Nat.le_of_ble_eq_true rfl) ?_
          cases hf
          exact wa_vret C dX12_happens_49 rfl
    · replace hf := ite_t hf c3
      cases hf
      exact wa_vret C dX12_happens_19 rfl
theorem kv_X12_462 : KV RX12 462 yX12_happens cX12_happens 3 none 0 := KV.mk q2105 q2107 qs118 q13 q2108 ⟨by decide, by decide, by decide +kernel⟩
def f_X12_years_L41 (l2 : Int32) (l3 : Int32) : Nat → Int32 → Int32 → MS → Option (Int32 × MS)
  | 0, _, _, _ => none
  | n + 1, l4, l5, z0 => (if l2 ≤ l5 then (if l3 = 0 then some (l4, z0) else (if l3 = (1 : Int32) then grd (vi (87 : Int32) 172) (some ((z0.2.2 10 ((87 : Int32)).toNatClampNeg), z0)) else (f_X12_greatest z0 (86 : Int32)).bind (fun q11 => some (q11.1, q11.2)))) else (f_X12_happens z0).bind (fun q13 => (f_X12_eveningGoes q13 (86 : Int32)).bind (fun q14 => (f_X12_bits (q14.1 41)).bind (fun q15 => bnd (l4 + q15) (fun x16 => bnd (l5 + 1) (fun x17 => f_X12_years_L41 l2 l3 n x16 x17 q14))))))
def f_X12_years (v : MS) (p0 : Int32) (p1 : Int32) (p2 : Int32) : Option (Int32 × MS) := bnd (upd v.1 0 (0 : Int32), v.2) (fun y1 => (f_X12_isWhat y1 p2 (2 : Int32)).bind (fun q2 => (if q2.1 = 0 then some ((0 : Int32), q2.2) else (f_X12_isSoon q2.2 p1 (0 : Int32) (2 : Int32)).bind (fun q4 => (if q4.1 = 0 then some ((0 : Int32), q4.2) else (f_X12_tries q4.2).bind (fun q6 => bnd (upd q6.1 52 p0, q6.2) (fun y7 => f_X12_years_L41 p1 p2 FUEL (0 : Int32) (0 : Int32) y7)))))))
set_option maxRecDepth 20000 in
theorem w_X12_years_L41 {p : Program} {l : Launch} {e : Env} {s : State} {m : MethodId} {args : Array Value} {below : List Frame} {meth : Method} {c : Code} {D : va_G} {A : Nat → Prop} {dT : Nat → ClassId} {a : Nat → Nat} {res : Int32 × MS} {l2 : Int32} {l3 : Int32} (C : Cx p s m args meth c cX12_years 6 RX12 (some .int) D A dT) : ∀ (n : Nat) (l4 : Int32) (l5 : Int32) (z0 : MS), f_X12_years_L41 l2 l3 n l4 l5 z0 = some res → WA p l e ({ frames := 5, cells := 0, slots := 0, locals := 120 } : Room) s m args below meth c (MQ below (QI D dT A ([wM dT a res.2]) res.1) args s 0 0 A) D A 0 0 6 41 ([wM dT a z0]) [(0, .ref (a 0)), (2, .int l2), (3, .int l3), (4, .int l4), (5, .int l5)] [] := by
  intro n
  induction n with
  | zero => intro l4 l5 z0 hf; cases hf
  | succ n ih =>
    intro l4 l5 z0 hf
    unfold f_X12_years_L41 at hf
    refine wa_iload C 4 43 dX12_years_41 rfl rfl ?_
    refine wa_iload_n C 1 44 dX12_years_43 rfl rfl ?_
    refine wa_icmp_ge C 75 47 dX12_years_44 rfl rfl (fun c8 => ?_) (fun c8 => ?_)
    · replace hf := ite_t hf c8
      refine wa_iload_n C 2 76 dX12_years_75 rfl rfl ?_
      refine wa_if_ne C 84 79 dX12_years_76 rfl rfl (fun c9 => ?_) (fun c9 => ?_)
      · replace hf := ite_f hf c9
        refine wa_iload_n C 2 85 dX12_years_84 rfl rfl ?_
        refine wa_iconst (v := 1) C 86 dX12_years_85 rfl rfl ?_
        refine wa_icmp_ne C 99 89 dX12_years_86 rfl rfl (fun c10 => ?_) (fun c10 => ?_)
        · replace hf := ite_f hf c10
          refine wa_aload_n C 0 100 dX12_years_99 rfl rfl ?_
          refine wa_bipush (v := 86) C 102 dX12_years_100 rfl rfl ?_
          obtain ⟨q11, hq11, hf⟩ := bind_ex hf
          refine wa_callVAi (b1 := 0) (q1 := 0) (ci := 12) (As := [.int (86 : Int32)]) C 105 dX12_years_102 rfl kv_X12_350 (c_X12_greatest hq11) ⟨rfl, rfl⟩ ⟨Nat.le_of_ble_eq_true rfl, Nat.le_of_ble_eq_true rfl⟩ rfl rfl rfl rfl rfl ⟨Nat.zero_le _, Nat.zero_le _⟩ (Nat.le_of_ble_eq_true rfl) ?_
          cases hf
          exact wa_iret C dX12_years_105 rfl rfl
        · replace hf := ite_t hf c10
          refine wa_aload_n C 0 90 dX12_years_89 rfl rfl ?_
          refine wa_get C 93 0 0 34 dX12_years_90 rfl iX12 q1483 rfl (Nat.le_of_ble_eq_true rfl) rfl rfl rfl ?_
          refine wa_bipush (v := 87) C 95 dX12_years_93 rfl rfl ?_
          obtain ⟨g12, hf⟩ := grd_ex hf
          refine wa_iald C 96 0 10 dX12_years_95 rfl rfl rfl (vi_in g12) ?_
          refine wa_goto C 105 dX12_years_96 rfl ?_
          cases hf
          exact wa_iret C dX12_years_105 rfl rfl
      · replace hf := ite_t hf c9
        refine wa_iload C 3 81 dX12_years_79 rfl rfl ?_
        refine wa_goto C 105 dX12_years_81 rfl ?_
        cases hf
        exact wa_iret C dX12_years_105 rfl rfl
    · replace hf := ite_f hf c8
      refine wa_aload_n C 0 48 dX12_years_47 rfl rfl ?_
      obtain ⟨q13, hq13, hf⟩ := bind_ex hf
      refine wa_callVAv (b1 := 0) (q1 := 0) (ci := 12) (As := []) C 51 dX12_years_48 rfl kv_X12_462 (c_X12_happens hq13) ⟨rfl, rfl⟩ ⟨Nat.le_of_ble_eq_true rfl, Nat.le_of_ble_eq_true rfl⟩ rfl rfl rfl rfl rfl ⟨Nat.zero_le _, Nat.zero_le _⟩ (Nat.le_of_ble_eq_true rfl) ?_
      refine wa_aload_n C 0 52 dX12_years_51 rfl rfl ?_
      refine wa_bipush (v := 86) C 54 dX12_years_52 rfl rfl ?_
      obtain ⟨q14, hq14, hf⟩ := bind_ex hf
      refine wa_callVAv (b1 := 0) (q1 := 0) (ci := 12) (As := [.int (86 : Int32)]) C 57 dX12_years_54 rfl kv_X12_334 (c_X12_eveningGoes hq14) ⟨rfl, rfl⟩ ⟨Nat.le_of_ble_eq_true rfl, Nat.le_of_ble_eq_true rfl⟩ rfl rfl rfl rfl rfl ⟨Nat.zero_le _, Nat.zero_le _⟩ (Nat.le_of_ble_eq_true rfl) ?_
      refine wa_iload C 3 59 dX12_years_57 rfl rfl ?_
      refine wa_aload_n C 0 60 dX12_years_59 rfl rfl ?_
      refine wa_get C 63 0 0 41 dX12_years_60 rfl iX12 q1490 rfl (Nat.le_of_ble_eq_true rfl) rfl rfl rfl ?_
      obtain ⟨q15, hq15, hf⟩ := bind_ex hf
      refine wa_callS0i (As := [.int (q14.1 41)]) C 66 dX12_years_63 rfl ks_X12_291 (c_X12_bits hq15) ⟨rfl, rfl⟩ ⟨Nat.le_of_ble_eq_true rfl, Nat.le_of_ble_eq_true rfl⟩ rfl rfl ⟨Nat.zero_le _, Nat.zero_le _⟩ (Nat.le_of_ble_eq_true rfl) ?_
      refine wa_iadd C 67 dX12_years_66 rfl ?_
      obtain ⟨x16, ex16, hf⟩ := bnd_ex hf
      refine wa_topi ex16 ?_
      refine wa_istore (lv' := [(0, .ref (a 0)), (2, .int l2), (3, .int l3), (4, .int x16), (5, .int l5)]) C [1, 2, 3, 0, 4] 69 dX12_years_67 rfl (Nat.le_of_ble_eq_true rfl) rfl ?_
      obtain ⟨x17, ex17, hf⟩ := bnd_ex hf
      refine wa_iinc (v := x17) (lv' := [(0, .ref (a 0)), (2, .int l2), (3, .int l3), (4, .int x16), (5, .int x17)]) C 4 [1, 2, 3, 4, 0] 72 dX12_years_69 rfl rfl (by rw [ex17]; rfl) (Nat.le_of_ble_eq_true rfl) rfl ?_
      refine wa_goto C 41 dX12_years_72 rfl ?_
      exact ih x16 x17 q14 hf
set_option maxRecDepth 20000 in
theorem c_X12_years {l : Launch} {D : va_G} {dT : Nat → ClassId} {a : Nat → Nat} {v : MS} {p0 : Int32} {p1 : Int32} {p2 : Int32} {res : Int32 × MS} (hf : f_X12_years v p0 p1 p2 = some res) : CTi l yX12_years cX12_years 6 (some .int) ({ frames := 5, cells := 0, slots := 0, locals := 120 } : Room) D dT [.ref (a 0), .int p0, .int p1, .int p2] ([wM dT a v]) ([wM dT a res.2]) res.1 := by
  refine CTi.of (by decide) (Nat.le_of_ble_eq_true rfl) rfl ?_
  intro p e s m args below meth c A C
  unfold f_X12_years at hf
  refine wa_aload_n C 0 1 dX12_years_0 rfl rfl ?_
  refine wa_iconst (v := 0) C 2 dX12_years_1 rfl rfl ?_
  obtain ⟨y1, ey1, hf⟩ := bnd_ex hf
  refine wa_put (ws' := [wM dT a y1]) C 5 0 0 0 tyX12 dX12_years_2 rfl iX12 tyX12_ok nmX12 q1449 rfl (Nat.le_of_ble_eq_true rfl) rfl rfl rfl rfl rfl (Nat.le_of_ble_eq_true rfl) (by rw [ey1]; rfl) ?_
  refine wa_aload_n C 0 6 dX12_years_5 rfl rfl ?_
  refine wa_iload_n C 3 7 dX12_years_6 rfl rfl ?_
  refine wa_iconst (v := 2) C 8 dX12_years_7 rfl rfl ?_
  obtain ⟨q2, hq2, hf⟩ := bind_ex hf
  refine wa_callVAi (b1 := 0) (q1 := 0) (ci := 12) (As := [.int p2, .int (2 : Int32)]) C 11 dX12_years_8 rfl kv_X12_371 (c_X12_isWhat hq2) ⟨rfl, rfl⟩ ⟨Nat.le_of_ble_eq_true rfl, Nat.le_of_ble_eq_true rfl⟩ rfl rfl rfl rfl rfl ⟨Nat.zero_le _, Nat.zero_le _⟩ (Nat.le_of_ble_eq_true rfl) ?_
  refine wa_if_eq C 24 14 dX12_years_11 rfl rfl (fun c3 => ?_) (fun c3 => ?_)
  · replace hf := ite_t hf c3
    refine wa_iconst (v := 0) C 25 dX12_years_24 rfl rfl ?_
    cases hf
    exact wa_iret C dX12_years_25 rfl rfl
  · replace hf := ite_f hf c3
    refine wa_aload_n C 0 15 dX12_years_14 rfl rfl ?_
    refine wa_iload_n C 2 16 dX12_years_15 rfl rfl ?_
    refine wa_iconst (v := 0) C 17 dX12_years_16 rfl rfl ?_
    refine wa_iconst (v := 2) C 18 dX12_years_17 rfl rfl ?_
    obtain ⟨q4, hq4, hf⟩ := bind_ex hf
    refine wa_callVAi (b1 := 0) (q1 := 0) (ci := 12) (As := [.int p1, .int (0 : Int32), .int (2 : Int32)]) C 21 dX12_years_18 rfl kv_X12_402 (c_X12_isSoon hq4) ⟨rfl, rfl⟩ ⟨Nat.le_of_ble_eq_true rfl, Nat.le_of_ble_eq_true rfl⟩ rfl rfl rfl rfl rfl ⟨Nat.zero_le _, Nat.zero_le _⟩ (Nat.le_of_ble_eq_true rfl) ?_
    refine wa_if_ne C 26 24 dX12_years_21 rfl rfl (fun c5 => ?_) (fun c5 => ?_)
    · replace hf := ite_f hf c5
      refine wa_aload_n C 0 27 dX12_years_26 rfl rfl ?_
      obtain ⟨q6, hq6, hf⟩ := bind_ex hf
      refine wa_callVAv (b1 := 0) (q1 := 0) (ci := 12) (As := []) C 30 dX12_years_27 rfl kv_X12_337 (c_X12_tries hq6) ⟨rfl, rfl⟩ ⟨Nat.le_of_ble_eq_true rfl, Nat.le_of_ble_eq_true rfl⟩ rfl rfl rfl rfl rfl ⟨Nat.zero_le _, Nat.zero_le _⟩ (Nat.le_of_ble_eq_true rfl) ?_
      refine wa_aload_n C 0 31 dX12_years_30 rfl rfl ?_
      refine wa_iload_n C 1 32 dX12_years_31 rfl rfl ?_
      obtain ⟨y7, ey7, hf⟩ := bnd_ex hf
      refine wa_put (ws' := [wM dT a y7]) C 35 0 0 52 tyX12 dX12_years_32 rfl iX12 tyX12_ok nmX12 q1501 rfl (Nat.le_of_ble_eq_true rfl) rfl rfl rfl rfl rfl (Nat.le_of_ble_eq_true rfl) (by rw [ey7]; rfl) ?_
      refine wa_iconst (v := 0) C 36 dX12_years_35 rfl rfl ?_
      refine wa_istore (lv' := [(0, .ref (a 0)), (1, .int p0), (2, .int p1), (3, .int p2), (4, .int (0 : Int32))]) C [1, 2, 3, 4, 0] 38 dX12_years_36 rfl (Nat.le_of_ble_eq_true rfl) rfl ?_
      refine wa_iconst (v := 0) C 39 dX12_years_38 rfl rfl ?_
      refine wa_istore (lv' := [(0, .ref (a 0)), (1, .int p0), (2, .int p1), (3, .int p2), (4, .int (0 : Int32)), (5, .int (0 : Int32))]) C [1, 2, 3, 4, 5, 0] 41 dX12_years_39 rfl (Nat.le_of_ble_eq_true rfl) rfl ?_
      refine wa_lv (lv' := [(0, .ref (a 0)), (2, .int p1), (3, .int p2), (4, .int (0 : Int32)), (5, .int (0 : Int32))]) [0, 2, 3, 4, 5] rfl ?_
      exact w_X12_years_L41 C FUEL (0 : Int32) (0 : Int32) y7 hf
    · replace hf := ite_t hf c5
      refine wa_iconst (v := 0) C 25 dX12_years_24 rfl rfl ?_
      cases hf
      exact wa_iret C dX12_years_25 rfl rfl
