theorem ks_X12_430 : KS RX12 430 yX12_lowestOut cX12_lowestOut 2 (some .int) 1 := KS.mk q1872 q1873 q13 q1874 ⟨by decide, by decide, by decide +kernel⟩
theorem ks_X12_439 : KS RX12 439 yX12_lesser cX12_lesser 2 (some .int) 2 := KS.mk q1886 q1887 q13 q1888 ⟨by decide, by decide, by decide +kernel⟩
theorem kv_X12_433 : KV RX12 433 yX12_canPair cX12_canPair 3 (some .boolean) 2 := KV.mk q1875 q1877 qs93 q13 q1878 ⟨by decide, by decide, by decide +kernel⟩
theorem kv_X12_436 : KV RX12 436 yX12_pairs cX12_pairs 4 (some .int) 3 := KV.mk q1879 q1881 qs94 q13 q1882 ⟨by decide, by decide, by decide +kernel⟩
def f_X12_laysPairs_L50 (k20 : Int32 → MS → Option (MS)) (l2 : Int32) (l3 : Int32) (z0 : MS) : Nat → Int32 → Int32 → Option (MS)
  | 0, _, _ => none
  | n + 1, l4, l5 => (if (z0.1 1) ≤ l5 then grd (vi l2 4096) (bnd (z0.1, z0.2.1, uA z0.2.2 19 (l2).toNatClampNeg l4) (fun y12 => bnd (l2 + (-1)) (fun x13 => k20 x13 y12))) else (if ((l2 >>> (l5 &&& 31)) &&& (1 : Int32)) = 0 then (f_X12_canPair z0 l3 l5).bind (fun q16 => (if q16 = 0 then bnd (l5 + 1) (fun x18 => f_X12_laysPairs_L50 k20 l2 l3 z0 n l4 x18) else (f_X12_pairs z0 l2 l3 l5).bind (fun q19 => (f_X12_lesser l4 q19).bind (fun q20 => bnd (l5 + 1) (fun x21 => f_X12_laysPairs_L50 k20 l2 l3 z0 n q20 x21))))) else bnd (l5 + 1) (fun x15 => f_X12_laysPairs_L50 k20 l2 l3 z0 n l4 x15)))
def f_X12_laysPairs_L20 : Nat → Int32 → MS → Option (MS)
  | 0, _, _ => none
  | n + 1, l2, z0 => (if l2 < 0 then some (z0) else (f_X12_lowestOut l2).bind (fun q6 => grd (vi (l2 ||| ((1 : Int32) <<< (q6 &&& 31))) 4096) (bnd ((1000 : Int32) + (z0.2.2 19 ((l2 ||| ((1 : Int32) <<< (q6 &&& 31)))).toNatClampNeg)) (fun x8 => bnd (q6 + (1 : Int32)) (fun x9 => f_X12_laysPairs_L50 (f_X12_laysPairs_L20 n) l2 q6 z0 FUEL x8 x9)))))
def f_X12_laysPairs (v : MS) : Option (MS) := bnd (((1 : Int32) <<< ((v.1 1) &&& 31)) - (1 : Int32)) (fun x1 => grd (vi x1 4096) (bnd (v.1, v.2.1, uA v.2.2 19 (x1).toNatClampNeg (0 : Int32)) (fun y3 => bnd (x1 - (1 : Int32)) (fun x4 => f_X12_laysPairs_L20 FUEL x4 y3))))
set_option maxRecDepth 20000 in
theorem w_X12_laysPairs_L50 {p : Program} {l : Launch} {e : Env} {s : State} {m : MethodId} {args : Array Value} {below : List Frame} {meth : Method} {c : Code} {D : va_G} {A : Nat → Prop} {dT : Nat → ClassId} {a : Nat → Nat} {res : MS} {l2 : Int32} {l3 : Int32} {z0 : MS} (C : Cx p s m args meth c cX12_laysPairs 6 RX12 none D A dT) {k20 : Int32 → MS → Option (MS)} (hk20 : ∀ (l2 : Int32) (z0 : MS), k20 l2 z0 = some res → WA p l e ({ frames := 2, cells := 0, slots := 0, locals := 44 } : Room) s m args below meth c (MQ below (QV D dT A ([wM dT a res])) args s 0 0 A) D A 0 0 6 20 ([wM dT a z0]) [(0, .ref (a 0)), (2, .int l2)] []) : ∀ (n : Nat) (l4 : Int32) (l5 : Int32), f_X12_laysPairs_L50 k20 l2 l3 z0 n l4 l5 = some res → WA p l e ({ frames := 2, cells := 0, slots := 0, locals := 44 } : Room) s m args below meth c (MQ below (QV D dT A ([wM dT a res])) args s 0 0 A) D A 0 0 6 50 ([wM dT a z0]) [(0, .ref (a 0)), (2, .int l2), (3, .int l3), (4, .int l4), (5, .int l5)] [] := by
  intro n
  induction n with
  | zero => intro l4 l5 hf; cases hf
  | succ n ih =>
    intro l4 l5 hf
    unfold f_X12_laysPairs_L50 at hf
    refine wa_iload C 4 52 dX12_laysPairs_50 rfl rfl ?_
    refine wa_aload_n C 0 53 dX12_laysPairs_52 rfl rfl ?_
    refine wa_get C 56 0 0 1 dX12_laysPairs_53 rfl iX12 q1450 rfl (Nat.le_of_ble_eq_true rfl) rfl rfl rfl ?_
    refine wa_icmp_ge C 99 59 dX12_laysPairs_56 rfl rfl (fun c10 => ?_) (fun c10 => ?_)
    · replace hf := ite_t hf c10
      refine wa_aload_n C 0 100 dX12_laysPairs_99 rfl rfl ?_
      refine wa_get C 103 0 0 47 dX12_laysPairs_100 rfl iX12 q1496 rfl (Nat.le_of_ble_eq_true rfl) rfl rfl rfl ?_
      refine wa_iload_n C 1 104 dX12_laysPairs_103 rfl rfl ?_
      refine wa_iload C 3 106 dX12_laysPairs_104 rfl rfl ?_
      obtain ⟨g11, hf⟩ := grd_ex hf
      obtain ⟨y12, ey12, hf⟩ := bnd_ex hf
      refine wa_iast (ws' := [wM dT a y12]) C 107 0 19 dX12_laysPairs_106 rfl rfl rfl (vi_in g11) (by rw [ey12]; rfl) ?_
      obtain ⟨x13, ex13, hf⟩ := bnd_ex hf
      refine wa_iinc (v := x13) (lv' := [(0, .ref (a 0)), (2, .int x13), (3, .int l3), (4, .int l4), (5, .int l5)]) C 1 [1, 0, 2, 3, 4] 110 dX12_laysPairs_107 rfl rfl (by rw [ex13]; rfl) (Nat.le_of_ble_eq_true rfl) rfl ?_
      refine wa_goto C 20 dX12_laysPairs_110 rfl ?_
      refine wa_lv (lv' := [(0, .ref (a 0)), (2, .int x13)]) [0, 1] rfl ?_
      exact hk20 x13 y12 hf
    · replace hf := ite_f hf c10
      refine wa_iload_n C 1 60 dX12_laysPairs_59 rfl rfl ?_
      refine wa_iload C 4 62 dX12_laysPairs_60 rfl rfl ?_
      refine wa_ishr C 63 dX12_laysPairs_62 rfl ?_
      refine wa_iconst (v := 1) C 64 dX12_laysPairs_63 rfl rfl ?_
      refine wa_iand C 65 dX12_laysPairs_64 rfl ?_
      refine wa_if_ne C 93 68 dX12_laysPairs_65 rfl rfl (fun c14 => ?_) (fun c14 => ?_)
      · replace hf := ite_f hf c14
        obtain ⟨x15, ex15, hf⟩ := bnd_ex hf
        refine wa_iinc (v := x15) (lv' := [(0, .ref (a 0)), (2, .int l2), (3, .int l3), (4, .int l4), (5, .int x15)]) C 4 [1, 2, 3, 4, 0] 96 dX12_laysPairs_93 rfl rfl (by rw [ex15]; rfl) (Nat.le_of_ble_eq_true rfl) rfl ?_
        refine wa_goto C 50 dX12_laysPairs_96 rfl ?_
        exact ih l4 x15 hf
      · replace hf := ite_t hf c14
        refine wa_aload_n C 0 69 dX12_laysPairs_68 rfl rfl ?_
        refine wa_iload_n C 2 70 dX12_laysPairs_69 rfl rfl ?_
        refine wa_iload C 4 72 dX12_laysPairs_70 rfl rfl ?_
        obtain ⟨q16, hq16, hf⟩ := bind_ex hf
        refine wa_callVAi (b1 := 0) (q1 := 0) (ci := 12) (As := [.int l3, .int l5]) C 75 dX12_laysPairs_72 rfl kv_X12_433 (c_X12_canPair hq16) ⟨rfl, rfl⟩ ⟨Nat.le_of_ble_eq_true rfl, Nat.le_of_ble_eq_true rfl⟩ rfl rfl rfl rfl rfl ⟨Nat.zero_le _, Nat.zero_le _⟩ (Nat.le_of_ble_eq_true rfl) ?_
        refine wa_if_eq C 93 78 dX12_laysPairs_75 rfl rfl (fun c17 => ?_) (fun c17 => ?_)
        · replace hf := ite_t hf c17
          obtain ⟨x18, ex18, hf⟩ := bnd_ex hf
          refine wa_iinc (v := x18) (lv' := [(0, .ref (a 0)), (2, .int l2), (3, .int l3), (4, .int l4), (5, .int x18)]) C 4 [1, 2, 3, 4, 0] 96 dX12_laysPairs_93 rfl rfl (by rw [ex18]; rfl) (Nat.le_of_ble_eq_true rfl) rfl ?_
          refine wa_goto C 50 dX12_laysPairs_96 rfl ?_
          exact ih l4 x18 hf
        · replace hf := ite_f hf c17
          refine wa_iload C 3 80 dX12_laysPairs_78 rfl rfl ?_
          refine wa_aload_n C 0 81 dX12_laysPairs_80 rfl rfl ?_
          refine wa_iload_n C 1 82 dX12_laysPairs_81 rfl rfl ?_
          refine wa_iload_n C 2 83 dX12_laysPairs_82 rfl rfl ?_
          refine wa_iload C 4 85 dX12_laysPairs_83 rfl rfl ?_
          obtain ⟨q19, hq19, hf⟩ := bind_ex hf
          refine wa_callVAi (b1 := 0) (q1 := 0) (ci := 12) (As := [.int l2, .int l3, .int l5]) C 88 dX12_laysPairs_85 rfl kv_X12_436 (c_X12_pairs hq19) ⟨rfl, rfl⟩ ⟨Nat.le_of_ble_eq_true rfl, Nat.le_of_ble_eq_true rfl⟩ rfl rfl rfl rfl rfl ⟨Nat.zero_le _, Nat.zero_le _⟩ (Nat.le_of_ble_eq_true rfl) ?_
          obtain ⟨q20, hq20, hf⟩ := bind_ex hf
          refine wa_callS0i (As := [.int l4, .int q19]) C 91 dX12_laysPairs_88 rfl ks_X12_439 (c_X12_lesser hq20) ⟨rfl, rfl⟩ ⟨Nat.le_of_ble_eq_true rfl, Nat.le_of_ble_eq_true rfl⟩ rfl rfl ⟨Nat.zero_le _, Nat.zero_le _⟩ (Nat.le_of_ble_eq_true rfl) ?_
          refine wa_istore (lv' := [(0, .ref (a 0)), (2, .int l2), (3, .int l3), (4, .int q20), (5, .int l5)]) C [1, 2, 3, 0, 4] 93 dX12_laysPairs_91 rfl (Nat.le_of_ble_eq_true rfl) rfl ?_
          obtain ⟨x21, ex21, hf⟩ := bnd_ex hf
          refine wa_iinc (v := x21) (lv' := [(0, .ref (a 0)), (2, .int l2), (3, .int l3), (4, .int q20), (5, .int x21)]) C 4 [1, 2, 3, 4, 0] 96 dX12_laysPairs_93 rfl rfl (by rw [ex21]; rfl) (Nat.le_of_ble_eq_true rfl) rfl ?_
          refine wa_goto C 50 dX12_laysPairs_96 rfl ?_
          exact ih q20 x21 hf
set_option maxRecDepth 20000 in
theorem w_X12_laysPairs_L20 {p : Program} {l : Launch} {e : Env} {s : State} {m : MethodId} {args : Array Value} {below : List Frame} {meth : Method} {c : Code} {D : va_G} {A : Nat → Prop} {dT : Nat → ClassId} {a : Nat → Nat} {res : MS} (C : Cx p s m args meth c cX12_laysPairs 6 RX12 none D A dT) : ∀ (n : Nat) (l2 : Int32) (z0 : MS), f_X12_laysPairs_L20 n l2 z0 = some res → WA p l e ({ frames := 2, cells := 0, slots := 0, locals := 44 } : Room) s m args below meth c (MQ below (QV D dT A ([wM dT a res])) args s 0 0 A) D A 0 0 6 20 ([wM dT a z0]) [(0, .ref (a 0)), (2, .int l2)] [] := by
  intro n
  induction n with
  | zero => intro l2 z0 hf; cases hf
  | succ n ih =>
    intro l2 z0 hf
    unfold f_X12_laysPairs_L20 at hf
    refine wa_iload_n C 1 21 dX12_laysPairs_20 rfl rfl ?_
    refine wa_if_lt C 113 24 dX12_laysPairs_21 rfl rfl (fun c5 => ?_) (fun c5 => ?_)
    · replace hf := ite_t hf c5
      cases hf
      exact wa_vret C dX12_laysPairs_113 rfl
    · replace hf := ite_f hf c5
      refine wa_iload_n C 1 25 dX12_laysPairs_24 rfl rfl ?_
      obtain ⟨q6, hq6, hf⟩ := bind_ex hf
      refine wa_callS0i (As := [.int l2]) C 28 dX12_laysPairs_25 rfl ks_X12_430 (c_X12_lowestOut hq6) ⟨rfl, rfl⟩ ⟨Nat.le_of_ble_eq_true rfl, Nat.le_of_ble_eq_true rfl⟩ rfl rfl ⟨Nat.zero_le _, Nat.zero_le _⟩ (Nat.le_of_ble_eq_true rfl) ?_
      refine wa_istore_n (lv' := [(0, .ref (a 0)), (2, .int l2), (3, .int q6)]) C [1, 2, 0] 29 dX12_laysPairs_28 rfl (Nat.le_of_ble_eq_true rfl) rfl ?_
      refine wa_sipush (v := 1000) C 32 dX12_laysPairs_29 rfl rfl ?_
      refine wa_aload_n C 0 33 dX12_laysPairs_32 rfl rfl ?_
      refine wa_get C 36 0 0 47 dX12_laysPairs_33 rfl iX12 q1496 rfl (Nat.le_of_ble_eq_true rfl) rfl rfl rfl ?_
      refine wa_iload_n C 1 37 dX12_laysPairs_36 rfl rfl ?_
      refine wa_iconst (v := 1) C 38 dX12_laysPairs_37 rfl rfl ?_
      refine wa_iload_n C 2 39 dX12_laysPairs_38 rfl rfl ?_
      refine wa_ishl C 40 dX12_laysPairs_39 rfl ?_
      refine wa_ior C 41 dX12_laysPairs_40 rfl ?_
      obtain ⟨g7, hf⟩ := grd_ex hf
      refine wa_iald C 42 0 19 dX12_laysPairs_41 rfl rfl rfl (vi_in g7) ?_
      refine wa_iadd C 43 dX12_laysPairs_42 rfl ?_
      obtain ⟨x8, ex8, hf⟩ := bnd_ex hf
      refine wa_topi ex8 ?_
      refine wa_istore (lv' := [(0, .ref (a 0)), (2, .int l2), (3, .int q6), (4, .int x8)]) C [1, 2, 3, 0] 45 dX12_laysPairs_43 rfl (Nat.le_of_ble_eq_true rfl) rfl ?_
      refine wa_iload_n C 2 46 dX12_laysPairs_45 rfl rfl ?_
      refine wa_iconst (v := 1) C 47 dX12_laysPairs_46 rfl rfl ?_
      refine wa_iadd C 48 dX12_laysPairs_47 rfl ?_
      obtain ⟨x9, ex9, hf⟩ := bnd_ex hf
      refine wa_topi ex9 ?_
      refine wa_istore (lv' := [(0, .ref (a 0)), (2, .int l2), (3, .int q6), (4, .int x8), (5, .int x9)]) C [1, 2, 3, 4, 0] 50 dX12_laysPairs_48 rfl (Nat.le_of_ble_eq_true rfl) rfl ?_
      exact w_X12_laysPairs_L50 C ih FUEL x8 x9 hf
set_option maxRecDepth 20000 in
theorem c_X12_laysPairs {l : Launch} {D : va_G} {dT : Nat → ClassId} {a : Nat → Nat} {v : MS} {res : MS} (hf : f_X12_laysPairs v = some res) : CTv l yX12_laysPairs cX12_laysPairs 6 none ({ frames := 2, cells := 0, slots := 0, locals := 44 } : Room) D dT [.ref (a 0)] ([wM dT a v]) ([wM dT a res]) := by
  refine CTv.of (by decide) (Nat.le_of_ble_eq_true rfl) rfl ?_
  intro p e s m args below meth c A C
  unfold f_X12_laysPairs at hf
  refine wa_iconst (v := 1) C 1 dX12_laysPairs_0 rfl rfl ?_
  refine wa_aload_n C 0 2 dX12_laysPairs_1 rfl rfl ?_
  refine wa_get C 5 0 0 1 dX12_laysPairs_2 rfl iX12 q1450 rfl (Nat.le_of_ble_eq_true rfl) rfl rfl rfl ?_
  refine wa_ishl C 6 dX12_laysPairs_5 rfl ?_
  refine wa_iconst (v := 1) C 7 dX12_laysPairs_6 rfl rfl ?_
  refine wa_isub C 8 dX12_laysPairs_7 rfl ?_
  obtain ⟨x1, ex1, hf⟩ := bnd_ex hf
  refine wa_topi ex1 ?_
  refine wa_istore_n (lv' := [(0, .ref (a 0)), (1, .int x1)]) C [1, 0] 9 dX12_laysPairs_8 rfl (Nat.le_of_ble_eq_true rfl) rfl ?_
  refine wa_aload_n C 0 10 dX12_laysPairs_9 rfl rfl ?_
  refine wa_get C 13 0 0 47 dX12_laysPairs_10 rfl iX12 q1496 rfl (Nat.le_of_ble_eq_true rfl) rfl rfl rfl ?_
  refine wa_iload_n C 1 14 dX12_laysPairs_13 rfl rfl ?_
  refine wa_iconst (v := 0) C 15 dX12_laysPairs_14 rfl rfl ?_
  obtain ⟨g2, hf⟩ := grd_ex hf
  obtain ⟨y3, ey3, hf⟩ := bnd_ex hf
  refine wa_iast (ws' := [wM dT a y3]) C 16 0 19 dX12_laysPairs_15 rfl rfl rfl (vi_in g2) (by rw [ey3]; rfl) ?_
  refine wa_iload_n C 1 17 dX12_laysPairs_16 rfl rfl ?_
  refine wa_iconst (v := 1) C 18 dX12_laysPairs_17 rfl rfl ?_
  refine wa_isub C 19 dX12_laysPairs_18 rfl ?_
  obtain ⟨x4, ex4, hf⟩ := bnd_ex hf
  refine wa_topi ex4 ?_
  refine wa_istore_n (lv' := [(0, .ref (a 0)), (1, .int x1), (2, .int x4)]) C [1, 2, 0] 20 dX12_laysPairs_19 rfl (Nat.le_of_ble_eq_true rfl) rfl ?_
  refine wa_lv (lv' := [(0, .ref (a 0)), (2, .int x4)]) [0, 2] rfl ?_
  exact w_X12_laysPairs_L20 C FUEL x4 y3 hf
theorem kv_X12_442 : KV RX12 442 yX12_laysPairs cX12_laysPairs 6 none 0 := KV.mk q1868 q1870 qs92 q13 q1871 ⟨by decide, by decide, by decide +kernel⟩
def f_X12_partnerOf_L37 (k15 : Int32 → Option (Int32 × MS)) (l1 : Int32) (l2 : Int32) (l3 : Int32) (l4 : Int32) (z0 : MS) : Nat → Int32 → Int32 → Option (Int32 × MS)
  | 0, _, _ => none
  | n + 1, l5, l6 => (if l6 ≤ l4 then (if l4 = l1 then some (l5, z0) else (if l5 = l1 then some (l4, z0) else bnd (l2 ||| ((1 : Int32) <<< (l4 &&& 31))) (fun x9 => (if l5 = (-1 : Int32) then k15 x9 else bnd (x9 ||| ((1 : Int32) <<< (l5 &&& 31))) (fun x11 => k15 x11))))) else (if ((l2 >>> (l6 &&& 31)) &&& (1 : Int32)) = 0 then (f_X12_canPair z0 l4 l6).bind (fun q14 => (if q14 = 0 then bnd (l6 + (-1)) (fun x16 => f_X12_partnerOf_L37 k15 l1 l2 l3 l4 z0 n l5 x16) else (f_X12_pairs z0 l2 l4 l6).bind (fun q17 => grd (vi l2 4096) ((if q17 = (z0.2.2 19 (l2).toNatClampNeg) then bnd (l6 + (-1)) (fun x21 => f_X12_partnerOf_L37 k15 l1 l2 l3 l4 z0 n l6 x21) else bnd (l6 + (-1)) (fun x20 => f_X12_partnerOf_L37 k15 l1 l2 l3 l4 z0 n l5 x20)))))) else bnd (l6 + (-1)) (fun x13 => f_X12_partnerOf_L37 k15 l1 l2 l3 l4 z0 n l5 x13)))
def f_X12_partnerOf_L15 (l1 : Int32) (l3 : Int32) (z0 : MS) : Nat → Int32 → Option (Int32 × MS)
  | 0, _ => none
  | n + 1, l2 => (if l2 = l3 then some ((-1 : Int32), z0) else (f_X12_lowestOut l2).bind (fun q4 => bnd ((z0.1 1) - (1 : Int32)) (fun x5 => f_X12_partnerOf_L37 (f_X12_partnerOf_L15 l1 l3 z0 n) l1 l2 l3 q4 z0 FUEL (-1 : Int32) x5)))
def f_X12_partnerOf (v : MS) (p0 : Int32) : Option (Int32 × MS) := (f_X12_laysPairs v).bind (fun q1 => bnd (((1 : Int32) <<< ((q1.1 1) &&& 31)) - (1 : Int32)) (fun x2 => f_X12_partnerOf_L15 p0 x2 q1 FUEL (0 : Int32)))
set_option maxRecDepth 20000 in
theorem w_X12_partnerOf_L37 {p : Program} {l : Launch} {e : Env} {s : State} {m : MethodId} {args : Array Value} {below : List Frame} {meth : Method} {c : Code} {D : va_G} {A : Nat → Prop} {dT : Nat → ClassId} {a : Nat → Nat} {res : Int32 × MS} {l1 : Int32} {l2 : Int32} {l3 : Int32} {l4 : Int32} {z0 : MS} (C : Cx p s m args meth c cX12_partnerOf 7 RX12 (some .int) D A dT) {k15 : Int32 → Option (Int32 × MS)} (hk15 : ∀ (l2 : Int32), k15 l2 = some res → WA p l e ({ frames := 3, cells := 0, slots := 0, locals := 69 } : Room) s m args below meth c (MQ below (QI D dT A ([wM dT a res.2]) res.1) args s 0 0 A) D A 0 0 7 15 ([wM dT a z0]) [(0, .ref (a 0)), (1, .int l1), (2, .int l2), (3, .int l3)] []) : ∀ (n : Nat) (l5 : Int32) (l6 : Int32), f_X12_partnerOf_L37 k15 l1 l2 l3 l4 z0 n l5 l6 = some res → WA p l e ({ frames := 3, cells := 0, slots := 0, locals := 69 } : Room) s m args below meth c (MQ below (QI D dT A ([wM dT a res.2]) res.1) args s 0 0 A) D A 0 0 7 37 ([wM dT a z0]) [(0, .ref (a 0)), (1, .int l1), (2, .int l2), (3, .int l3), (4, .int l4), (5, .int l5), (6, .int l6)] [] := by
  intro n
  induction n with
  | zero => intro l5 l6 hf; cases hf
  | succ n ih =>
    intro l5 l6 hf
    unfold f_X12_partnerOf_L37 at hf
    refine wa_iload C 6 39 dX12_partnerOf_37 rfl rfl ?_
    refine wa_iload C 4 41 dX12_partnerOf_39 rfl rfl ?_
    refine wa_icmp_le C 92 44 dX12_partnerOf_41 rfl rfl (fun c6 => ?_) (fun c6 => ?_)
    · replace hf := ite_t hf c6
      refine wa_iload C 4 94 dX12_partnerOf_92 rfl rfl ?_
      refine wa_iload_n C 1 95 dX12_partnerOf_94 rfl rfl ?_
      refine wa_icmp_ne C 101 98 dX12_partnerOf_95 rfl rfl (fun c7 => ?_) (fun c7 => ?_)
      · replace hf := ite_f hf c7
        refine wa_iload C 5 103 dX12_partnerOf_101 rfl rfl ?_
        refine wa_iload_n C 1 104 dX12_partnerOf_103 rfl rfl ?_
        refine wa_icmp_ne C 110 107 dX12_partnerOf_104 rfl rfl (fun c8 => ?_) (fun c8 => ?_)
        · replace hf := ite_f hf c8
          refine wa_iload_n C 2 111 dX12_partnerOf_110 rfl rfl ?_
          refine wa_iconst (v := 1) C 112 dX12_partnerOf_111 rfl rfl ?_
          refine wa_iload C 4 114 dX12_partnerOf_112 rfl rfl ?_
          refine wa_ishl C 115 dX12_partnerOf_114 rfl ?_
          refine wa_ior C 116 dX12_partnerOf_115 rfl ?_
          obtain ⟨x9, ex9, hf⟩ := bnd_ex hf
          refine wa_topi ex9 ?_
          refine wa_istore_n (lv' := [(0, .ref (a 0)), (1, .int l1), (2, .int x9), (3, .int l3), (4, .int l4), (5, .int l5), (6, .int l6)]) C [1, 2, 0, 3, 4, 5, 6] 117 dX12_partnerOf_116 rfl (Nat.le_of_ble_eq_true rfl) rfl ?_
          refine wa_iload C 5 119 dX12_partnerOf_117 rfl rfl ?_
          refine wa_iconst (v := (-1)) C 120 dX12_partnerOf_119 rfl rfl ?_
          refine wa_icmp_eq C 130 123 dX12_partnerOf_120 rfl rfl (fun c10 => ?_) (fun c10 => ?_)
          · replace hf := ite_t hf c10
            refine wa_goto C 15 dX12_partnerOf_130 rfl ?_
            refine wa_lv (lv' := [(0, .ref (a 0)), (1, .int l1), (2, .int x9), (3, .int l3)]) [0, 1, 2, 3] rfl ?_
            exact hk15 x9 hf
          · replace hf := ite_f hf c10
            refine wa_iload_n C 2 124 dX12_partnerOf_123 rfl rfl ?_
            refine wa_iconst (v := 1) C 125 dX12_partnerOf_124 rfl rfl ?_
            refine wa_iload C 5 127 dX12_partnerOf_125 rfl rfl ?_
            refine wa_ishl C 128 dX12_partnerOf_127 rfl ?_
            refine wa_ior C 129 dX12_partnerOf_128 rfl ?_
            obtain ⟨x11, ex11, hf⟩ := bnd_ex hf
            refine wa_topi ex11 ?_
            refine wa_istore_n (lv' := [(0, .ref (a 0)), (1, .int l1), (2, .int x11), (3, .int l3), (4, .int l4), (5, .int l5), (6, .int l6)]) C [1, 2, 0, 3, 4, 5, 6] 130 dX12_partnerOf_129 rfl (Nat.le_of_ble_eq_true rfl) rfl ?_
            refine wa_goto C 15 dX12_partnerOf_130 rfl ?_
            refine wa_lv (lv' := [(0, .ref (a 0)), (1, .int l1), (2, .int x11), (3, .int l3)]) [0, 1, 2, 3] rfl ?_
            exact hk15 x11 hf
        · replace hf := ite_t hf c8
          refine wa_iload C 4 109 dX12_partnerOf_107 rfl rfl ?_
          cases hf
          exact wa_iret C dX12_partnerOf_109 rfl rfl
      · replace hf := ite_t hf c7
        refine wa_iload C 5 100 dX12_partnerOf_98 rfl rfl ?_
        cases hf
        exact wa_iret C dX12_partnerOf_100 rfl rfl
    · replace hf := ite_f hf c6
      refine wa_iload_n C 2 45 dX12_partnerOf_44 rfl rfl ?_
      refine wa_iload C 6 47 dX12_partnerOf_45 rfl rfl ?_
      refine wa_ishr C 48 dX12_partnerOf_47 rfl ?_
      refine wa_iconst (v := 1) C 49 dX12_partnerOf_48 rfl rfl ?_
      refine wa_iand C 50 dX12_partnerOf_49 rfl ?_
      refine wa_if_ne C 86 53 dX12_partnerOf_50 rfl rfl (fun c12 => ?_) (fun c12 => ?_)
      · replace hf := ite_f hf c12
        obtain ⟨x13, ex13, hf⟩ := bnd_ex hf
        refine wa_iinc (v := x13) (lv' := [(0, .ref (a 0)), (1, .int l1), (2, .int l2), (3, .int l3), (4, .int l4), (5, .int l5), (6, .int x13)]) C 6 [1, 2, 3, 4, 5, 6, 0] 89 dX12_partnerOf_86 rfl rfl (by rw [ex13]; rfl) (Nat.le_of_ble_eq_true rfl) rfl ?_
        refine wa_goto C 37 dX12_partnerOf_89 rfl ?_
        exact ih l5 x13 hf
      · replace hf := ite_t hf c12
        refine wa_aload_n C 0 54 dX12_partnerOf_53 rfl rfl ?_
        refine wa_iload C 4 56 dX12_partnerOf_54 rfl rfl ?_
        refine wa_iload C 6 58 dX12_partnerOf_56 rfl rfl ?_
        obtain ⟨q14, hq14, hf⟩ := bind_ex hf
        refine wa_callVAi (b1 := 0) (q1 := 0) (ci := 12) (As := [.int l4, .int l6]) C 61 dX12_partnerOf_58 rfl kv_X12_433 (c_X12_canPair hq14) ⟨rfl, rfl⟩ ⟨Nat.le_of_ble_eq_true rfl, Nat.le_of_ble_eq_true rfl⟩ rfl rfl rfl rfl rfl ⟨Nat.zero_le _, Nat.zero_le _⟩ (Nat.le_of_ble_eq_true rfl) ?_
        refine wa_if_eq C 86 64 dX12_partnerOf_61 rfl rfl (fun c15 => ?_) (fun c15 => ?_)
        · replace hf := ite_t hf c15
          obtain ⟨x16, ex16, hf⟩ := bnd_ex hf
          refine wa_iinc (v := x16) (lv' := [(0, .ref (a 0)), (1, .int l1), (2, .int l2), (3, .int l3), (4, .int l4), (5, .int l5), (6, .int x16)]) C 6 [1, 2, 3, 4, 5, 6, 0] 89 dX12_partnerOf_86 rfl rfl (by rw [ex16]; rfl) (Nat.le_of_ble_eq_true rfl) rfl ?_
          refine wa_goto C 37 dX12_partnerOf_89 rfl ?_
          exact ih l5 x16 hf
        · replace hf := ite_f hf c15
          refine wa_aload_n C 0 65 dX12_partnerOf_64 rfl rfl ?_
          refine wa_iload_n C 2 66 dX12_partnerOf_65 rfl rfl ?_
          refine wa_iload C 4 68 dX12_partnerOf_66 rfl rfl ?_
          refine wa_iload C 6 70 dX12_partnerOf_68 rfl rfl ?_
          obtain ⟨q17, hq17, hf⟩ := bind_ex hf
          refine wa_callVAi (b1 := 0) (q1 := 0) (ci := 12) (As := [.int l2, .int l4, .int l6]) C 73 dX12_partnerOf_70 rfl kv_X12_436 (c_X12_pairs hq17) ⟨rfl, rfl⟩ ⟨Nat.le_of_ble_eq_true rfl, Nat.le_of_ble_eq_true rfl⟩ rfl rfl rfl rfl rfl ⟨Nat.zero_le _, Nat.zero_le _⟩ (Nat.le_of_ble_eq_true rfl) ?_
          refine wa_aload_n C 0 74 dX12_partnerOf_73 rfl rfl ?_
          refine wa_get C 77 0 0 47 dX12_partnerOf_74 rfl iX12 q1496 rfl (Nat.le_of_ble_eq_true rfl) rfl rfl rfl ?_
          refine wa_iload_n C 2 78 dX12_partnerOf_77 rfl rfl ?_
          obtain ⟨g18, hf⟩ := grd_ex hf
          refine wa_iald C 79 0 19 dX12_partnerOf_78 rfl rfl rfl (vi_in g18) ?_
          refine wa_icmp_ne C 86 82 dX12_partnerOf_79 rfl rfl (fun c19 => ?_) (fun c19 => ?_)
          · replace hf := ite_f hf c19
            obtain ⟨x20, ex20, hf⟩ := bnd_ex hf
            refine wa_iinc (v := x20) (lv' := [(0, .ref (a 0)), (1, .int l1), (2, .int l2), (3, .int l3), (4, .int l4), (5, .int l5), (6, .int x20)]) C 6 [1, 2, 3, 4, 5, 6, 0] 89 dX12_partnerOf_86 rfl rfl (by rw [ex20]; rfl) (Nat.le_of_ble_eq_true rfl) rfl ?_
            refine wa_goto C 37 dX12_partnerOf_89 rfl ?_
            exact ih l5 x20 hf
          · replace hf := ite_t hf c19
            refine wa_iload C 6 84 dX12_partnerOf_82 rfl rfl ?_
            refine wa_istore (lv' := [(0, .ref (a 0)), (1, .int l1), (2, .int l2), (3, .int l3), (4, .int l4), (5, .int l6), (6, .int l6)]) C [1, 2, 3, 4, 5, 0, 6] 86 dX12_partnerOf_84 rfl (Nat.le_of_ble_eq_true rfl) rfl ?_
            obtain ⟨x21, ex21, hf⟩ := bnd_ex hf
            refine wa_iinc (v := x21) (lv' := [(0, .ref (a 0)), (1, .int l1), (2, .int l2), (3, .int l3), (4, .int l4), (5, .int l6), (6, .int x21)]) C 6 [1, 2, 3, 4, 5, 6, 0] 89 dX12_partnerOf_86 rfl rfl (by rw [ex21]; rfl) (Nat.le_of_ble_eq_true rfl) rfl ?_
            refine wa_goto C 37 dX12_partnerOf_89 rfl ?_
            exact ih l6 x21 hf
set_option maxRecDepth 20000 in
theorem w_X12_partnerOf_L15 {p : Program} {l : Launch} {e : Env} {s : State} {m : MethodId} {args : Array Value} {below : List Frame} {meth : Method} {c : Code} {D : va_G} {A : Nat → Prop} {dT : Nat → ClassId} {a : Nat → Nat} {res : Int32 × MS} {l1 : Int32} {l3 : Int32} {z0 : MS} (C : Cx p s m args meth c cX12_partnerOf 7 RX12 (some .int) D A dT) : ∀ (n : Nat) (l2 : Int32), f_X12_partnerOf_L15 l1 l3 z0 n l2 = some res → WA p l e ({ frames := 3, cells := 0, slots := 0, locals := 69 } : Room) s m args below meth c (MQ below (QI D dT A ([wM dT a res.2]) res.1) args s 0 0 A) D A 0 0 7 15 ([wM dT a z0]) [(0, .ref (a 0)), (1, .int l1), (2, .int l2), (3, .int l3)] [] := by
  intro n
  induction n with
  | zero => intro l2 hf; cases hf
  | succ n ih =>
    intro l2 hf
    unfold f_X12_partnerOf_L15 at hf
    refine wa_iload_n C 2 16 dX12_partnerOf_15 rfl rfl ?_
    refine wa_iload_n C 3 17 dX12_partnerOf_16 rfl rfl ?_
    refine wa_icmp_eq C 133 20 dX12_partnerOf_17 rfl rfl (fun c3 => ?_) (fun c3 => ?_)
    · replace hf := ite_t hf c3
      refine wa_iconst (v := (-1)) C 134 dX12_partnerOf_133 rfl rfl ?_
      cases hf
      exact wa_iret C dX12_partnerOf_134 rfl rfl
    · replace hf := ite_f hf c3
      refine wa_iload_n C 2 21 dX12_partnerOf_20 rfl rfl ?_
      obtain ⟨q4, hq4, hf⟩ := bind_ex hf
      refine wa_callS0i (As := [.int l2]) C 24 dX12_partnerOf_21 rfl ks_X12_430 (c_X12_lowestOut hq4) ⟨rfl, rfl⟩ ⟨Nat.le_of_ble_eq_true rfl, Nat.le_of_ble_eq_true rfl⟩ rfl rfl ⟨Nat.zero_le _, Nat.zero_le _⟩ (Nat.le_of_ble_eq_true rfl) ?_
      refine wa_istore (lv' := [(0, .ref (a 0)), (1, .int l1), (2, .int l2), (3, .int l3), (4, .int q4)]) C [1, 2, 3, 4, 0] 26 dX12_partnerOf_24 rfl (Nat.le_of_ble_eq_true rfl) rfl ?_
      refine wa_iconst (v := (-1)) C 27 dX12_partnerOf_26 rfl rfl ?_
      refine wa_istore (lv' := [(0, .ref (a 0)), (1, .int l1), (2, .int l2), (3, .int l3), (4, .int q4), (5, .int (-1 : Int32))]) C [1, 2, 3, 4, 5, 0] 29 dX12_partnerOf_27 rfl (Nat.le_of_ble_eq_true rfl) rfl ?_
      refine wa_aload_n C 0 30 dX12_partnerOf_29 rfl rfl ?_
      refine wa_get C 33 0 0 1 dX12_partnerOf_30 rfl iX12 q1450 rfl (Nat.le_of_ble_eq_true rfl) rfl rfl rfl ?_
      refine wa_iconst (v := 1) C 34 dX12_partnerOf_33 rfl rfl ?_
      refine wa_isub C 35 dX12_partnerOf_34 rfl ?_
      obtain ⟨x5, ex5, hf⟩ := bnd_ex hf
      refine wa_topi ex5 ?_
      refine wa_istore (lv' := [(0, .ref (a 0)), (1, .int l1), (2, .int l2), (3, .int l3), (4, .int q4), (5, .int (-1 : Int32)), (6, .int x5)]) C [1, 2, 3, 4, 5, 6, 0] 37 dX12_partnerOf_35 rfl (Nat.le_of_ble_eq_true rfl) rfl ?_
      exact w_X12_partnerOf_L37 C ih FUEL (-1 : Int32) x5 hf
set_option maxRecDepth 20000 in
theorem c_X12_partnerOf {l : Launch} {D : va_G} {dT : Nat → ClassId} {a : Nat → Nat} {v : MS} {p0 : Int32} {res : Int32 × MS} (hf : f_X12_partnerOf v p0 = some res) : CTi l yX12_partnerOf cX12_partnerOf 7 (some .int) ({ frames := 3, cells := 0, slots := 0, locals := 69 } : Room) D dT [.ref (a 0), .int p0] ([wM dT a v]) ([wM dT a res.2]) res.1 := by
  refine CTi.of (by decide) (Nat.le_of_ble_eq_true rfl) rfl ?_
  intro p e s m args below meth c A C
  unfold f_X12_partnerOf at hf
  refine wa_aload_n C 0 1 dX12_partnerOf_0 rfl rfl ?_
  obtain ⟨q1, hq1, hf⟩ := bind_ex hf
  refine wa_callVAv (b1 := 0) (q1 := 0) (ci := 12) (As := []) C 4 dX12_partnerOf_1 rfl kv_X12_442 (c_X12_laysPairs hq1) ⟨rfl, rfl⟩ ⟨Nat.le_of_ble_eq_true rfl, Nat.le_of_ble_eq_true rfl⟩ rfl rfl rfl rfl rfl ⟨Nat.zero_le _, Nat.zero_le _⟩ (Nat.le_of_ble_eq_true rfl) ?_
  refine wa_iconst (v := 0) C 5 dX12_partnerOf_4 rfl rfl ?_
  refine wa_istore_n (lv' := [(0, .ref (a 0)), (1, .int p0), (2, .int (0 : Int32))]) C [1, 2, 0] 6 dX12_partnerOf_5 rfl (Nat.le_of_ble_eq_true rfl) rfl ?_
  refine wa_iconst (v := 1) C 7 dX12_partnerOf_6 rfl rfl ?_
  refine wa_aload_n C 0 8 dX12_partnerOf_7 rfl rfl ?_
  refine wa_get C 11 0 0 1 dX12_partnerOf_8 rfl iX12 q1450 rfl (Nat.le_of_ble_eq_true rfl) rfl rfl rfl ?_
  refine wa_ishl C 12 dX12_partnerOf_11 rfl ?_
  refine wa_iconst (v := 1) C 13 dX12_partnerOf_12 rfl rfl ?_
  refine wa_isub C 14 dX12_partnerOf_13 rfl ?_
  obtain ⟨x2, ex2, hf⟩ := bnd_ex hf
  refine wa_topi ex2 ?_
  refine wa_istore_n (lv' := [(0, .ref (a 0)), (1, .int p0), (2, .int (0 : Int32)), (3, .int x2)]) C [1, 2, 3, 0] 15 dX12_partnerOf_14 rfl (Nat.le_of_ble_eq_true rfl) rfl ?_
  exact w_X12_partnerOf_L15 C FUEL (0 : Int32) hf
theorem kv_X12_368 : KV RX12 368 yX12_isPerson cX12_isPerson 2 (some .boolean) 1 := KV.mk q1821 q1823 qs81 q13 q1824 ⟨by decide, by decide, by decide +kernel⟩
theorem kv_X12_371 : KV RX12 371 yX12_isWhat cX12_isWhat 3 (some .boolean) 2 := KV.mk q1825 q1827 qs82 q13 q1828 ⟨by decide, by decide, by decide +kernel⟩
theorem kv_X12_374 : KV RX12 374 yX12_withOne cX12_withOne 3 (some .int) 2 := KV.mk q1829 q1831 qs83 q13 q1832 ⟨by decide, by decide, by decide +kernel⟩
theorem kv_X12_377 : KV RX12 377 yX12_friendsOf cX12_friendsOf 4 (some .int) 1 := KV.mk q1833 q1835 qs84 q13 q1836 ⟨by decide, by decide, by decide +kernel⟩
theorem kv_X12_380 : KV RX12 380 yX12_partnerOf cX12_partnerOf 7 (some .int) 1 := KV.mk q1864 q1866 qs91 q13 q1867 ⟨by decide, by decide, by decide +kernel⟩
def f_X12_person (v : MS) (p0 : Int32) (p1 : Int32) : Option (Int32 × MS) := bnd (upd v.1 0 (0 : Int32), v.2) (fun y1 => (f_X12_isPerson y1 p0).bind (fun q2 => (if q2.1 = 0 then some ((0 : Int32), q2.2) else (f_X12_isWhat q2.2 p1 (8 : Int32)).bind (fun q4 => (if q4.1 = 0 then some ((0 : Int32), q4.2) else (if p1 = 0 then grd (vi ((2 : Int32) + p0) 172) (some ((q4.2.2.2 10 (((2 : Int32) + p0)).toNatClampNeg), q4.2)) else (if p1 = 1 then grd (vi ((14 : Int32) + p0) 172) (some ((q4.2.2.2 10 (((14 : Int32) + p0)).toNatClampNeg), q4.2)) else (if p1 = 2 then grd (vi ((50 : Int32) + p0) 172) (some ((q4.2.2.2 10 (((50 : Int32) + p0)).toNatClampNeg), q4.2)) else (if p1 = 3 then grd (vi ((38 : Int32) + p0) 172) (some ((q4.2.2.2 10 (((38 : Int32) + p0)).toNatClampNeg), q4.2)) else (if p1 = 4 then grd (vi ((26 : Int32) + p0) 172) (some ((q4.2.2.2 10 (((26 : Int32) + p0)).toNatClampNeg), q4.2)) else (if p1 = 5 then (f_X12_withOne q4.2 (0 : Int32) p0).bind (fun q17 => some (q17, q4.2)) else (if p1 = 6 then (f_X12_friendsOf q4.2 p0).bind (fun q19 => some (q19, q4.2)) else (if p1 = 7 then grd (vi ((2 : Int32) + p0) 172) ((f_X12_goerOf q4.2 (0 : Int32) (q4.2.2.2 10 (((2 : Int32) + p0)).toNatClampNeg)).bind (fun q22 => (if q22.1 = p0 then some ((1 : Int32), q22.2) else some ((0 : Int32), q22.2)))) else (f_X12_partnerOf q4.2 p0).bind (fun q24 => some (q24.1, q24.2)))))))))))))))
set_option maxRecDepth 20000 in
theorem c_X12_person {l : Launch} {D : va_G} {dT : Nat → ClassId} {a : Nat → Nat} {v : MS} {p0 : Int32} {p1 : Int32} {res : Int32 × MS} (hf : f_X12_person v p0 p1 = some res) : CTi l yX12_person cX12_person 3 (some .int) ({ frames := 4, cells := 0, slots := 0, locals := 96 } : Room) D dT [.ref (a 0), .int p0, .int p1] ([wM dT a v]) ([wM dT a res.2]) res.1 := by
  refine CTi.of (by decide) (Nat.le_of_ble_eq_true rfl) rfl ?_
  intro p e s m args below meth c A C
  unfold f_X12_person at hf
  refine wa_aload_n C 0 1 dX12_person_0 rfl rfl ?_
  refine wa_iconst (v := 0) C 2 dX12_person_1 rfl rfl ?_
  obtain ⟨y1, ey1, hf⟩ := bnd_ex hf
  refine wa_put (ws' := [wM dT a y1]) C 5 0 0 0 tyX12 dX12_person_2 rfl iX12 tyX12_ok nmX12 q1449 rfl (Nat.le_of_ble_eq_true rfl) rfl rfl rfl rfl rfl (Nat.le_of_ble_eq_true rfl) (by rw [ey1]; rfl) ?_
  refine wa_aload_n C 0 6 dX12_person_5 rfl rfl ?_
  refine wa_iload_n C 1 7 dX12_person_6 rfl rfl ?_
  obtain ⟨q2, hq2, hf⟩ := bind_ex hf
  refine wa_callVAi (b1 := 0) (q1 := 0) (ci := 12) (As := [.int p0]) C 10 dX12_person_7 rfl kv_X12_368 (c_X12_isPerson hq2) ⟨rfl, rfl⟩ ⟨Nat.le_of_ble_eq_true rfl, Nat.le_of_ble_eq_true rfl⟩ rfl rfl rfl rfl rfl ⟨Nat.zero_le _, Nat.zero_le _⟩ (Nat.le_of_ble_eq_true rfl) ?_
  refine wa_if_eq C 23 13 dX12_person_10 rfl rfl (fun c3 => ?_) (fun c3 => ?_)
  · replace hf := ite_t hf c3
    refine wa_iconst (v := 0) C 24 dX12_person_23 rfl rfl ?_
    cases hf
    exact wa_iret C dX12_person_24 rfl rfl
  · replace hf := ite_f hf c3
    refine wa_aload_n C 0 14 dX12_person_13 rfl rfl ?_
    refine wa_iload_n C 2 15 dX12_person_14 rfl rfl ?_
    refine wa_bipush (v := 8) C 17 dX12_person_15 rfl rfl ?_
    obtain ⟨q4, hq4, hf⟩ := bind_ex hf
    refine wa_callVAi (b1 := 0) (q1 := 0) (ci := 12) (As := [.int p1, .int (8 : Int32)]) C 20 dX12_person_17 rfl kv_X12_371 (c_X12_isWhat hq4) ⟨rfl, rfl⟩ ⟨Nat.le_of_ble_eq_true rfl, Nat.le_of_ble_eq_true rfl⟩ rfl rfl rfl rfl rfl ⟨Nat.zero_le _, Nat.zero_le _⟩ (Nat.le_of_ble_eq_true rfl) ?_
    refine wa_if_ne C 25 23 dX12_person_20 rfl rfl (fun c5 => ?_) (fun c5 => ?_)
    · replace hf := ite_f hf c5
      refine wa_iload_n C 2 26 dX12_person_25 rfl rfl ?_
      by_cases c6 : p1 = 0
      · replace hf := ite_t hf c6
        refine wa_ts C 0 (46) 72 dX12_person_26 c6 (by decide) (by decide) rfl rfl ?_
        refine wa_aload_n C 0 73 dX12_person_72 rfl rfl ?_
        refine wa_get C 76 0 0 34 dX12_person_73 rfl iX12 q1483 rfl (Nat.le_of_ble_eq_true rfl) rfl rfl rfl ?_
        refine wa_iconst (v := 2) C 77 dX12_person_76 rfl rfl ?_
        refine wa_iload_n C 1 78 dX12_person_77 rfl rfl ?_
        refine wa_iadd C 79 dX12_person_78 rfl ?_
        obtain ⟨g7, hf⟩ := grd_ex hf
        refine wa_iald C 80 0 10 dX12_person_79 rfl rfl rfl (vi_in g7) ?_
        cases hf
        exact wa_iret C dX12_person_80 rfl rfl
      · replace hf := ite_f hf c6
        by_cases c8 : p1 = 1
        · replace hf := ite_t hf c8
          refine wa_ts C 1 (55) 81 dX12_person_26 c8 (by decide) (by decide) rfl rfl ?_
          refine wa_aload_n C 0 82 dX12_person_81 rfl rfl ?_
          refine wa_get C 85 0 0 34 dX12_person_82 rfl iX12 q1483 rfl (Nat.le_of_ble_eq_true rfl) rfl rfl rfl ?_
          refine wa_bipush (v := 14) C 87 dX12_person_85 rfl rfl ?_
          refine wa_iload_n C 1 88 dX12_person_87 rfl rfl ?_
          refine wa_iadd C 89 dX12_person_88 rfl ?_
          obtain ⟨g9, hf⟩ := grd_ex hf
          refine wa_iald C 90 0 10 dX12_person_89 rfl rfl rfl (vi_in g9) ?_
          cases hf
          exact wa_iret C dX12_person_90 rfl rfl
        · replace hf := ite_f hf c8
          by_cases c10 : p1 = 2
          · replace hf := ite_t hf c10
            refine wa_ts C 2 (65) 91 dX12_person_26 c10 (by decide) (by decide) rfl rfl ?_
            refine wa_aload_n C 0 92 dX12_person_91 rfl rfl ?_
            refine wa_get C 95 0 0 34 dX12_person_92 rfl iX12 q1483 rfl (Nat.le_of_ble_eq_true rfl) rfl rfl rfl ?_
            refine wa_bipush (v := 50) C 97 dX12_person_95 rfl rfl ?_
            refine wa_iload_n C 1 98 dX12_person_97 rfl rfl ?_
            refine wa_iadd C 99 dX12_person_98 rfl ?_
            obtain ⟨g11, hf⟩ := grd_ex hf
            refine wa_iald C 100 0 10 dX12_person_99 rfl rfl rfl (vi_in g11) ?_
            cases hf
            exact wa_iret C dX12_person_100 rfl rfl
          · replace hf := ite_f hf c10
            by_cases c12 : p1 = 3
            · replace hf := ite_t hf c12
              refine wa_ts C 3 (75) 101 dX12_person_26 c12 (by decide) (by decide) rfl rfl ?_
              refine wa_aload_n C 0 102 dX12_person_101 rfl rfl ?_
              refine wa_get C 105 0 0 34 dX12_person_102 rfl iX12 q1483 rfl (Nat.le_of_ble_eq_true rfl) rfl rfl rfl ?_
              refine wa_bipush (v := 38) C 107 dX12_person_105 rfl rfl ?_
              refine wa_iload_n C 1 108 dX12_person_107 rfl rfl ?_
              refine wa_iadd C 109 dX12_person_108 rfl ?_
              obtain ⟨g13, hf⟩ := grd_ex hf
              refine wa_iald C 110 0 10 dX12_person_109 rfl rfl rfl (vi_in g13) ?_
              cases hf
              exact wa_iret C dX12_person_110 rfl rfl
            · replace hf := ite_f hf c12
              by_cases c14 : p1 = 4
              · replace hf := ite_t hf c14
                refine wa_ts C 4 (85) 111 dX12_person_26 c14 (by decide) (by decide) rfl rfl ?_
                refine wa_aload_n C 0 112 dX12_person_111 rfl rfl ?_
                refine wa_get C 115 0 0 34 dX12_person_112 rfl iX12 q1483 rfl (Nat.le_of_ble_eq_true rfl) rfl rfl rfl ?_
                refine wa_bipush (v := 26) C 117 dX12_person_115 rfl rfl ?_
                refine wa_iload_n C 1 118 dX12_person_117 rfl rfl ?_
                refine wa_iadd C 119 dX12_person_118 rfl ?_
                obtain ⟨g15, hf⟩ := grd_ex hf
                refine wa_iald C 120 0 10 dX12_person_119 rfl rfl rfl (vi_in g15) ?_
                cases hf
                exact wa_iret C dX12_person_120 rfl rfl
              · replace hf := ite_f hf c14
                by_cases c16 : p1 = 5
                · replace hf := ite_t hf c16
                  refine wa_ts C 5 (95) 121 dX12_person_26 c16 (by decide) (by decide) rfl rfl ?_
                  refine wa_aload_n C 0 122 dX12_person_121 rfl rfl ?_
                  refine wa_iconst (v := 0) C 123 dX12_person_122 rfl rfl ?_
                  refine wa_iload_n C 1 124 dX12_person_123 rfl rfl ?_
                  obtain ⟨q17, hq17, hf⟩ := bind_ex hf
                  refine wa_callVAi (b1 := 0) (q1 := 0) (ci := 12) (As := [.int (0 : Int32), .int p0]) C 127 dX12_person_124 rfl kv_X12_374 (c_X12_withOne hq17) ⟨rfl, rfl⟩ ⟨Nat.le_of_ble_eq_true rfl, Nat.le_of_ble_eq_true rfl⟩ rfl rfl rfl rfl rfl ⟨Nat.zero_le _, Nat.zero_le _⟩ (Nat.le_of_ble_eq_true rfl) ?_
                  cases hf
                  exact wa_iret C dX12_person_127 rfl rfl
                · replace hf := ite_f hf c16
                  by_cases c18 : p1 = 6
                  · replace hf := ite_t hf c18
                    refine wa_ts C 6 (102) 128 dX12_person_26 c18 (by decide) (by decide) rfl rfl ?_
                    refine wa_aload_n C 0 129 dX12_person_128 rfl rfl ?_
                    refine wa_iload_n C 1 130 dX12_person_129 rfl rfl ?_
                    obtain ⟨q19, hq19, hf⟩ := bind_ex hf
                    refine wa_callVAi (b1 := 0) (q1 := 0) (ci := 12) (As := [.int p0]) C 133 dX12_person_130 rfl kv_X12_377 (c_X12_friendsOf hq19) ⟨rfl, rfl⟩ ⟨Nat.le_of_ble_eq_true rfl, Nat.le_of_ble_eq_true rfl⟩ rfl rfl rfl rfl rfl ⟨Nat.zero_le _, Nat.zero_le _⟩ (Nat.le_of_ble_eq_true rfl) ?_
                    cases hf
                    exact wa_iret C dX12_person_133 rfl rfl
                  · replace hf := ite_f hf c18
                    by_cases c20 : p1 = 7
                    · replace hf := ite_t hf c20
                      refine wa_ts C 7 (108) 134 dX12_person_26 c20 (by decide) (by decide) rfl rfl ?_
                      refine wa_aload_n C 0 135 dX12_person_134 rfl rfl ?_
                      refine wa_iconst (v := 0) C 136 dX12_person_135 rfl rfl ?_
                      refine wa_aload_n C 0 137 dX12_person_136 rfl rfl ?_
                      refine wa_get C 140 0 0 34 dX12_person_137 rfl iX12 q1483 rfl (Nat.le_of_ble_eq_true rfl) rfl rfl rfl ?_
                      refine wa_iconst (v := 2) C 141 dX12_person_140 rfl rfl ?_
                      refine wa_iload_n C 1 142 dX12_person_141 rfl rfl ?_
                      refine wa_iadd C 143 dX12_person_142 rfl ?_
                      obtain ⟨g21, hf⟩ := grd_ex hf
                      refine wa_iald C 144 0 10 dX12_person_143 rfl rfl rfl (vi_in g21) ?_
                      obtain ⟨q22, hq22, hf⟩ := bind_ex hf
                      refine wa_callVAi (b1 := 0) (q1 := 0) (ci := 12) (As := [.int (0 : Int32), .int (q4.2.2.2 10 (((2 : Int32) + p0)).toNatClampNeg)]) C 147 dX12_person_144 rfl kv_X12_319 (c_X12_goerOf hq22) ⟨rfl, rfl⟩ ⟨Nat.le_of_ble_eq_true rfl, Nat.le_of_ble_eq_true rfl⟩ rfl rfl rfl rfl rfl ⟨Nat.zero_le _, Nat.zero_le _⟩ (Nat.le_of_ble_eq_true rfl) ?_
                      refine wa_iload_n C 1 148 dX12_person_147 rfl rfl ?_
                      refine wa_icmp_ne C 155 151 dX12_person_148 rfl rfl (fun c23 => ?_) (fun c23 => ?_)
                      · replace hf := ite_f hf c23
                        refine wa_iconst (v := 0) C 156 dX12_person_155 rfl rfl ?_
                        cases hf
                        exact wa_iret C dX12_person_156 rfl rfl
                      · replace hf := ite_t hf c23
                        refine wa_iconst (v := 1) C 152 dX12_person_151 rfl rfl ?_
                        refine wa_goto C 156 dX12_person_152 rfl ?_
                        cases hf
                        exact wa_iret C dX12_person_156 rfl rfl
                    · replace hf := ite_f hf c20
                      refine wa_tsd C 157 dX12_person_26 (ts_out (0) 8 (nts_s (nts_s (nts_s (nts_s (nts_s (nts_s (nts_s (nts_s nts_0 rfl c6) rfl c8) rfl c10) rfl c12) rfl c14) rfl c16) rfl c18) rfl c20)) rfl ?_
                      refine wa_aload_n C 0 158 dX12_person_157 rfl rfl ?_
                      refine wa_iload_n C 1 159 dX12_person_158 rfl rfl ?_
                      obtain ⟨q24, hq24, hf⟩ := bind_ex hf
                      refine wa_callVAi (b1 := 0) (q1 := 0) (ci := 12) (As := [.int p0]) C 162 dX12_person_159 rfl kv_X12_380 (c_X12_partnerOf hq24) ⟨rfl, rfl⟩ ⟨Nat.le_of_ble_eq_true rfl, Nat.le_of_ble_eq_true rfl⟩ rfl rfl rfl rfl rfl ⟨Nat.zero_le _, Nat.zero_le _⟩ (Nat.le_of_ble_eq_true rfl) ?_
                      cases hf
                      exact wa_iret C dX12_person_162 rfl rfl
    · replace hf := ite_t hf c5
      refine wa_iconst (v := 0) C 24 dX12_person_23 rfl rfl ?_
      cases hf
      exact wa_iret C dX12_person_24 rfl rfl
theorem kv_X12_383 : KV RX12 383 yX12_isHouse cX12_isHouse 2 (some .boolean) 1 := KV.mk q1893 q1895 qs95 q13 q1896 ⟨by decide, by decide, by decide +kernel⟩
def f_X12_house (v : MS) (p0 : Int32) (p1 : Int32) : Option (Int32 × MS) := bnd (upd v.1 0 (0 : Int32), v.2) (fun y1 => (f_X12_isHouse y1 p0).bind (fun q2 => (if q2.1 = 0 then some ((0 : Int32), q2.2) else (f_X12_isWhat q2.2 p1 (6 : Int32)).bind (fun q4 => (if q4.1 = 0 then some ((0 : Int32), q4.2) else (if p1 = 0 then (f_X12_sizeOf q4.2 (0 : Int32) p0).bind (fun q7 => some (q7, q4.2)) else (if p1 = 1 then (f_X12_inHouse q4.2 (0 : Int32) p0).bind (fun q9 => some (q9, q4.2)) else (if p1 = 2 then (f_X12_whoAt q4.2 (0 : Int32) p0 (0 : Int32)).bind (fun q11 => some (q11, q4.2)) else (if p1 = 3 then (f_X12_sizeOf q4.2 (0 : Int32) p0).bind (fun q13 => (f_X12_whoAt q4.2 (0 : Int32) p0 (q13 - (1 : Int32))).bind (fun q14 => some (q14, q4.2))) else (if p1 = 4 then (f_X12_ranksOf q4.2 (0 : Int32) p0).bind (fun q16 => some (q16, q4.2)) else (if p1 = 5 then (f_X12_goerOf q4.2 (0 : Int32) p0).bind (fun q18 => some (q18.1, q18.2)) else grd (vi ((62 : Int32) + p0) 172) (some ((q4.2.2.2 10 (((62 : Int32) + p0)).toNatClampNeg), q4.2)))))))))))))
set_option maxRecDepth 20000 in
theorem c_X12_house {l : Launch} {D : va_G} {dT : Nat → ClassId} {a : Nat → Nat} {v : MS} {p0 : Int32} {p1 : Int32} {res : Int32 × MS} (hf : f_X12_house v p0 p1 = some res) : CTi l yX12_house cX12_house 3 (some .int) ({ frames := 4, cells := 0, slots := 0, locals := 96 } : Room) D dT [.ref (a 0), .int p0, .int p1] ([wM dT a v]) ([wM dT a res.2]) res.1 := by
  refine CTi.of (by decide) (Nat.le_of_ble_eq_true rfl) rfl ?_
  intro p e s m args below meth c A C
  unfold f_X12_house at hf
  refine wa_aload_n C 0 1 dX12_house_0 rfl rfl ?_
  refine wa_iconst (v := 0) C 2 dX12_house_1 rfl rfl ?_
  obtain ⟨y1, ey1, hf⟩ := bnd_ex hf
  refine wa_put (ws' := [wM dT a y1]) C 5 0 0 0 tyX12 dX12_house_2 rfl iX12 tyX12_ok nmX12 q1449 rfl (Nat.le_of_ble_eq_true rfl) rfl rfl rfl rfl rfl (Nat.le_of_ble_eq_true rfl) (by rw [ey1]; rfl) ?_
  refine wa_aload_n C 0 6 dX12_house_5 rfl rfl ?_
  refine wa_iload_n C 1 7 dX12_house_6 rfl rfl ?_
  obtain ⟨q2, hq2, hf⟩ := bind_ex hf
  refine wa_callVAi (b1 := 0) (q1 := 0) (ci := 12) (As := [.int p0]) C 10 dX12_house_7 rfl kv_X12_383 (c_X12_isHouse hq2) ⟨rfl, rfl⟩ ⟨Nat.le_of_ble_eq_true rfl, Nat.le_of_ble_eq_true rfl⟩ rfl rfl rfl rfl rfl ⟨Nat.zero_le _, Nat.zero_le _⟩ (Nat.le_of_ble_eq_true rfl) ?_
  refine wa_if_eq C 23 13 dX12_house_10 rfl rfl (fun c3 => ?_) (fun c3 => ?_)
  · replace hf := ite_t hf c3
    refine wa_iconst (v := 0) C 24 dX12_house_23 rfl rfl ?_
    cases hf
    exact wa_iret C dX12_house_24 rfl rfl
  · replace hf := ite_f hf c3
    refine wa_aload_n C 0 14 dX12_house_13 rfl rfl ?_
    refine wa_iload_n C 2 15 dX12_house_14 rfl rfl ?_
    refine wa_bipush (v := 6) C 17 dX12_house_15 rfl rfl ?_
    obtain ⟨q4, hq4, hf⟩ := bind_ex hf
    refine wa_callVAi (b1 := 0) (q1 := 0) (ci := 12) (As := [.int p1, .int (6 : Int32)]) C 20 dX12_house_17 rfl kv_X12_371 (c_X12_isWhat hq4) ⟨rfl, rfl⟩ ⟨Nat.le_of_ble_eq_true rfl, Nat.le_of_ble_eq_true rfl⟩ rfl rfl rfl rfl rfl ⟨Nat.zero_le _, Nat.zero_le _⟩ (Nat.le_of_ble_eq_true rfl) ?_
    refine wa_if_ne C 25 23 dX12_house_20 rfl rfl (fun c5 => ?_) (fun c5 => ?_)
    · replace hf := ite_f hf c5
      refine wa_iload_n C 2 26 dX12_house_25 rfl rfl ?_
      by_cases c6 : p1 = 0
      · replace hf := ite_t hf c6
        refine wa_ts C 0 (38) 64 dX12_house_26 c6 (by decide) (by decide) rfl rfl ?_
        refine wa_aload_n C 0 65 dX12_house_64 rfl rfl ?_
        refine wa_iconst (v := 0) C 66 dX12_house_65 rfl rfl ?_
        refine wa_iload_n C 1 67 dX12_house_66 rfl rfl ?_
        obtain ⟨q7, hq7, hf⟩ := bind_ex hf
        refine wa_callVAi (b1 := 0) (q1 := 0) (ci := 12) (As := [.int (0 : Int32), .int p0]) C 70 dX12_house_67 rfl kv_X12_297 (c_X12_sizeOf hq7) ⟨rfl, rfl⟩ ⟨Nat.le_of_ble_eq_true rfl, Nat.le_of_ble_eq_true rfl⟩ rfl rfl rfl rfl rfl ⟨Nat.zero_le _, Nat.zero_le _⟩ (Nat.le_of_ble_eq_true rfl) ?_
        cases hf
        exact wa_iret C dX12_house_70 rfl rfl
      · replace hf := ite_f hf c6
        by_cases c8 : p1 = 1
        · replace hf := ite_t hf c8
          refine wa_ts C 1 (45) 71 dX12_house_26 c8 (by decide) (by decide) rfl rfl ?_
          refine wa_aload_n C 0 72 dX12_house_71 rfl rfl ?_
          refine wa_iconst (v := 0) C 73 dX12_house_72 rfl rfl ?_
          refine wa_iload_n C 1 74 dX12_house_73 rfl rfl ?_
          obtain ⟨q9, hq9, hf⟩ := bind_ex hf
          refine wa_callVAi (b1 := 0) (q1 := 0) (ci := 12) (As := [.int (0 : Int32), .int p0]) C 77 dX12_house_74 rfl kv_X12_288 (c_X12_inHouse hq9) ⟨rfl, rfl⟩ ⟨Nat.le_of_ble_eq_true rfl, Nat.le_of_ble_eq_true rfl⟩ rfl rfl rfl rfl rfl ⟨Nat.zero_le _, Nat.zero_le _⟩ (Nat.le_of_ble_eq_true rfl) ?_
          cases hf
          exact wa_iret C dX12_house_77 rfl rfl
        · replace hf := ite_f hf c8
          by_cases c10 : p1 = 2
          · replace hf := ite_t hf c10
            refine wa_ts C 2 (52) 78 dX12_house_26 c10 (by decide) (by decide) rfl rfl ?_
            refine wa_aload_n C 0 79 dX12_house_78 rfl rfl ?_
            refine wa_iconst (v := 0) C 80 dX12_house_79 rfl rfl ?_
            refine wa_iload_n C 1 81 dX12_house_80 rfl rfl ?_
            refine wa_iconst (v := 0) C 82 dX12_house_81 rfl rfl ?_
            obtain ⟨q11, hq11, hf⟩ := bind_ex hf
            refine wa_callVAi (b1 := 0) (q1 := 0) (ci := 12) (As := [.int (0 : Int32), .int p0, .int (0 : Int32)]) C 85 dX12_house_82 rfl kv_X12_310 (c_X12_whoAt hq11) ⟨rfl, rfl⟩ ⟨Nat.le_of_ble_eq_true rfl, Nat.le_of_ble_eq_true rfl⟩ rfl rfl rfl rfl rfl ⟨Nat.zero_le _, Nat.zero_le _⟩ (Nat.le_of_ble_eq_true rfl) ?_
            cases hf
            exact wa_iret C dX12_house_85 rfl rfl
          · replace hf := ite_f hf c10
            by_cases c12 : p1 = 3
            · replace hf := ite_t hf c12
              refine wa_ts C 3 (60) 86 dX12_house_26 c12 (by decide) (by decide) rfl rfl ?_
              refine wa_aload_n C 0 87 dX12_house_86 rfl rfl ?_
              refine wa_iconst (v := 0) C 88 dX12_house_87 rfl rfl ?_
              refine wa_iload_n C 1 89 dX12_house_88 rfl rfl ?_
              refine wa_aload_n C 0 90 dX12_house_89 rfl rfl ?_
              refine wa_iconst (v := 0) C 91 dX12_house_90 rfl rfl ?_
              refine wa_iload_n C 1 92 dX12_house_91 rfl rfl ?_
              obtain ⟨q13, hq13, hf⟩ := bind_ex hf
              refine wa_callVAi (b1 := 0) (q1 := 0) (ci := 12) (As := [.int (0 : Int32), .int p0]) C 95 dX12_house_92 rfl kv_X12_297 (c_X12_sizeOf hq13) ⟨rfl, rfl⟩ ⟨Nat.le_of_ble_eq_true rfl, Nat.le_of_ble_eq_true rfl⟩ rfl rfl rfl rfl rfl ⟨Nat.zero_le _, Nat.zero_le _⟩ (Nat.le_of_ble_eq_true rfl) ?_
              refine wa_iconst (v := 1) C 96 dX12_house_95 rfl rfl ?_
              refine wa_isub C 97 dX12_house_96 rfl ?_
              obtain ⟨q14, hq14, hf⟩ := bind_ex hf
              refine wa_callVAi (b1 := 0) (q1 := 0) (ci := 12) (As := [.int (0 : Int32), .int p0, .int (q13 - (1 : Int32))]) C 100 dX12_house_97 rfl kv_X12_310 (c_X12_whoAt hq14) ⟨rfl, rfl⟩ ⟨Nat.le_of_ble_eq_true rfl, Nat.le_of_ble_eq_true rfl⟩ rfl rfl rfl rfl rfl ⟨Nat.zero_le _, Nat.zero_le _⟩ (Nat.le_of_ble_eq_true rfl) ?_
              cases hf
              exact wa_iret C dX12_house_100 rfl rfl
            · replace hf := ite_f hf c12
              by_cases c15 : p1 = 4
              · replace hf := ite_t hf c15
                refine wa_ts C 4 (75) 101 dX12_house_26 c15 (by decide) (by decide) rfl rfl ?_
                refine wa_aload_n C 0 102 dX12_house_101 rfl rfl ?_
                refine wa_iconst (v := 0) C 103 dX12_house_102 rfl rfl ?_
                refine wa_iload_n C 1 104 dX12_house_103 rfl rfl ?_
                obtain ⟨q16, hq16, hf⟩ := bind_ex hf
                refine wa_callVAi (b1 := 0) (q1 := 0) (ci := 12) (As := [.int (0 : Int32), .int p0]) C 107 dX12_house_104 rfl kv_X12_300 (c_X12_ranksOf hq16) ⟨rfl, rfl⟩ ⟨Nat.le_of_ble_eq_true rfl, Nat.le_of_ble_eq_true rfl⟩ rfl rfl rfl rfl rfl ⟨Nat.zero_le _, Nat.zero_le _⟩ (Nat.le_of_ble_eq_true rfl) ?_
                cases hf
                exact wa_iret C dX12_house_107 rfl rfl
              · replace hf := ite_f hf c15
                by_cases c17 : p1 = 5
                · replace hf := ite_t hf c17
                  refine wa_ts C 5 (82) 108 dX12_house_26 c17 (by decide) (by decide) rfl rfl ?_
                  refine wa_aload_n C 0 109 dX12_house_108 rfl rfl ?_
                  refine wa_iconst (v := 0) C 110 dX12_house_109 rfl rfl ?_
                  refine wa_iload_n C 1 111 dX12_house_110 rfl rfl ?_
                  obtain ⟨q18, hq18, hf⟩ := bind_ex hf
                  refine wa_callVAi (b1 := 0) (q1 := 0) (ci := 12) (As := [.int (0 : Int32), .int p0]) C 114 dX12_house_111 rfl kv_X12_319 (c_X12_goerOf hq18) ⟨rfl, rfl⟩ ⟨Nat.le_of_ble_eq_true rfl, Nat.le_of_ble_eq_true rfl⟩ rfl rfl rfl rfl rfl ⟨Nat.zero_le _, Nat.zero_le _⟩ (Nat.le_of_ble_eq_true rfl) ?_
                  cases hf
                  exact wa_iret C dX12_house_114 rfl rfl
                · replace hf := ite_f hf c17
                  refine wa_tsd C 115 dX12_house_26 (ts_out (0) 6 (nts_s (nts_s (nts_s (nts_s (nts_s (nts_s nts_0 rfl c6) rfl c8) rfl c10) rfl c12) rfl c15) rfl c17)) rfl ?_
                  refine wa_aload_n C 0 116 dX12_house_115 rfl rfl ?_
                  refine wa_get C 119 0 0 34 dX12_house_116 rfl iX12 q1483 rfl (Nat.le_of_ble_eq_true rfl) rfl rfl rfl ?_
                  refine wa_bipush (v := 62) C 121 dX12_house_119 rfl rfl ?_
                  refine wa_iload_n C 1 122 dX12_house_121 rfl rfl ?_
                  refine wa_iadd C 123 dX12_house_122 rfl ?_
                  obtain ⟨g19, hf⟩ := grd_ex hf
                  refine wa_iald C 124 0 10 dX12_house_123 rfl rfl rfl (vi_in g19) ?_
                  cases hf
                  exact wa_iret C dX12_house_124 rfl rfl
    · replace hf := ite_t hf c5
      refine wa_iconst (v := 0) C 24 dX12_house_23 rfl rfl ?_
      cases hf
      exact wa_iret C dX12_house_24 rfl rfl
theorem kv_X12_386 : KV RX12 386 yX12_refuses cX12_refuses 2 (some .int) 1 := KV.mk q1901 q1903 qs96 q13 q1904 ⟨by decide, by decide, by decide +kernel⟩
theorem kv_X12_389 : KV RX12 389 yX12_keeps0 cX12_keeps0 2 none 0 := KV.mk q1905 q1907 qs97 q13 q1908 ⟨by decide, by decide, by decide +kernel⟩
def f_X12_evenings_J29 (z0 : MS) : Option (Int32 × MS) := (f_X12_refuses z0 (1 : Int32)).bind (fun q4 => some (q4.1, q4.2))
def f_X12_evenings_L41 (l1 : Int32) : Nat → Int32 → MS → Option (Int32 × MS)
  | 0, _, _ => none
  | n + 1, l2, z0 => (if l1 ≤ l2 then grd (vi (0 : Int32) 172) (some ((z0.2.2 10 ((0 : Int32)).toNatClampNeg), z0)) else (f_X12_eveningGoes z0 (0 : Int32)).bind (fun q10 => bnd (l2 + 1) (fun x11 => f_X12_evenings_L41 l1 n x11 q10)))
def f_X12_evenings (v : MS) (p0 : Int32) : Option (Int32 × MS) := bnd (upd v.1 0 (0 : Int32), v.2) (fun y1 => (f_X12_within p0 (1 : Int32) (20 : Int32)).bind (fun q2 => (if q2 = 0 then f_X12_evenings_J29 y1 else grd (vi (0 : Int32) 172) ((if ((y1.2.2 10 ((0 : Int32)).toNatClampNeg) + p0) ≤ (9999 : Int32) then (f_X12_keeps0 y1).bind (fun q7 => f_X12_evenings_L41 p0 FUEL (0 : Int32) q7) else f_X12_evenings_J29 y1)))))
set_option maxRecDepth 20000 in
theorem w_X12_evenings_J29 {p : Program} {l : Launch} {e : Env} {s : State} {m : MethodId} {args : Array Value} {below : List Frame} {meth : Method} {c : Code} {D : va_G} {A : Nat → Prop} {dT : Nat → ClassId} {a : Nat → Nat} {res : Int32 × MS} (C : Cx p s m args meth c cX12_evenings 3 RX12 (some .int) D A dT) : ∀ (z0 : MS), f_X12_evenings_J29 z0 = some res → WA p l e ({ frames := 5, cells := 0, slots := 0, locals := 120 } : Room) s m args below meth c (MQ below (QI D dT A ([wM dT a res.2]) res.1) args s 0 0 A) D A 0 0 3 29 ([wM dT a z0]) [(0, .ref (a 0))] [] := by
  intro z0 hf
  unfold f_X12_evenings_J29 at hf
  refine wa_aload_n C 0 30 dX12_evenings_29 rfl rfl ?_
  refine wa_iconst (v := 1) C 31 dX12_evenings_30 rfl rfl ?_
  obtain ⟨q4, hq4, hf⟩ := bind_ex hf
  refine wa_callVAi (b1 := 0) (q1 := 0) (ci := 12) (As := [.int (1 : Int32)]) C 34 dX12_evenings_31 rfl kv_X12_386 (c_X12_refuses hq4) ⟨rfl, rfl⟩ ⟨Nat.le_of_ble_eq_true rfl, Nat.le_of_ble_eq_true rfl⟩ rfl rfl rfl rfl rfl ⟨Nat.zero_le _, Nat.zero_le _⟩ (Nat.le_of_ble_eq_true rfl) ?_
  cases hf
  exact wa_iret C dX12_evenings_34 rfl rfl
set_option maxRecDepth 20000 in
theorem w_X12_evenings_L41 {p : Program} {l : Launch} {e : Env} {s : State} {m : MethodId} {args : Array Value} {below : List Frame} {meth : Method} {c : Code} {D : va_G} {A : Nat → Prop} {dT : Nat → ClassId} {a : Nat → Nat} {res : Int32 × MS} {l1 : Int32} (C : Cx p s m args meth c cX12_evenings 3 RX12 (some .int) D A dT) : ∀ (n : Nat) (l2 : Int32) (z0 : MS), f_X12_evenings_L41 l1 n l2 z0 = some res → WA p l e ({ frames := 5, cells := 0, slots := 0, locals := 120 } : Room) s m args below meth c (MQ below (QI D dT A ([wM dT a res.2]) res.1) args s 0 0 A) D A 0 0 3 41 ([wM dT a z0]) [(0, .ref (a 0)), (1, .int l1), (2, .int l2)] [] := by
  intro n
  induction n with
  | zero => intro l2 z0 hf; cases hf
  | succ n ih =>
    intro l2 z0 hf
    unfold f_X12_evenings_L41 at hf
    refine wa_iload_n C 2 42 dX12_evenings_41 rfl rfl ?_
    refine wa_iload_n C 1 43 dX12_evenings_42 rfl rfl ?_
    refine wa_icmp_ge C 57 46 dX12_evenings_43 rfl rfl (fun c8 => ?_) (fun c8 => ?_)
    · replace hf := ite_t hf c8
      refine wa_aload_n C 0 58 dX12_evenings_57 rfl rfl ?_
      refine wa_get C 61 0 0 34 dX12_evenings_58 rfl iX12 q1483 rfl (Nat.le_of_ble_eq_true rfl) rfl rfl rfl ?_
      refine wa_iconst (v := 0) C 62 dX12_evenings_61 rfl rfl ?_
      obtain ⟨g9, hf⟩ := grd_ex hf
      refine wa_iald C 63 0 10 dX12_evenings_62 rfl rfl rfl (vi_in g9) ?_
      cases hf
      exact wa_iret C dX12_evenings_63 rfl rfl
    · replace hf := ite_f hf c8
      refine wa_aload_n C 0 47 dX12_evenings_46 rfl rfl ?_
      refine wa_iconst (v := 0) C 48 dX12_evenings_47 rfl rfl ?_
      obtain ⟨q10, hq10, hf⟩ := bind_ex hf
      refine wa_callVAv (b1 := 0) (q1 := 0) (ci := 12) (As := [.int (0 : Int32)]) C 51 dX12_evenings_48 rfl kv_X12_334 (c_X12_eveningGoes hq10) ⟨rfl, rfl⟩ ⟨Nat.le_of_ble_eq_true rfl, Nat.le_of_ble_eq_true rfl⟩ rfl rfl rfl rfl rfl ⟨Nat.zero_le _, Nat.zero_le _⟩ (Nat.le_of_ble_eq_true rfl) ?_
      obtain ⟨x11, ex11, hf⟩ := bnd_ex hf
      refine wa_iinc (v := x11) (lv' := [(0, .ref (a 0)), (1, .int l1), (2, .int x11)]) C 2 [1, 2, 0] 54 dX12_evenings_51 rfl rfl (by rw [ex11]; rfl) (Nat.le_of_ble_eq_true rfl) rfl ?_
      refine wa_goto C 41 dX12_evenings_54 rfl ?_
      exact ih x11 q10 hf
set_option maxRecDepth 20000 in
theorem c_X12_evenings {l : Launch} {D : va_G} {dT : Nat → ClassId} {a : Nat → Nat} {v : MS} {p0 : Int32} {res : Int32 × MS} (hf : f_X12_evenings v p0 = some res) : CTi l yX12_evenings cX12_evenings 3 (some .int) ({ frames := 5, cells := 0, slots := 0, locals := 120 } : Room) D dT [.ref (a 0), .int p0] ([wM dT a v]) ([wM dT a res.2]) res.1 := by
  refine CTi.of (by decide) (Nat.le_of_ble_eq_true rfl) rfl ?_
  intro p e s m args below meth c A C
  unfold f_X12_evenings at hf
  refine wa_aload_n C 0 1 dX12_evenings_0 rfl rfl ?_
  refine wa_iconst (v := 0) C 2 dX12_evenings_1 rfl rfl ?_
  obtain ⟨y1, ey1, hf⟩ := bnd_ex hf
  refine wa_put (ws' := [wM dT a y1]) C 5 0 0 0 tyX12 dX12_evenings_2 rfl iX12 tyX12_ok nmX12 q1449 rfl (Nat.le_of_ble_eq_true rfl) rfl rfl rfl rfl rfl (Nat.le_of_ble_eq_true rfl) (by rw [ey1]; rfl) ?_
  refine wa_iload_n C 1 6 dX12_evenings_5 rfl rfl ?_
  refine wa_iconst (v := 1) C 7 dX12_evenings_6 rfl rfl ?_
  refine wa_bipush (v := 20) C 9 dX12_evenings_7 rfl rfl ?_
  obtain ⟨q2, hq2, hf⟩ := bind_ex hf
  refine wa_callS0i (As := [.int p0, .int (1 : Int32), .int (20 : Int32)]) C 12 dX12_evenings_9 rfl ks_X12_346 (c_X12_within hq2) ⟨rfl, rfl⟩ ⟨Nat.le_of_ble_eq_true rfl, Nat.le_of_ble_eq_true rfl⟩ rfl rfl ⟨Nat.zero_le _, Nat.zero_le _⟩ (Nat.le_of_ble_eq_true rfl) ?_
  refine wa_if_eq C 29 15 dX12_evenings_12 rfl rfl (fun c3 => ?_) (fun c3 => ?_)
  · replace hf := ite_t hf c3
    refine wa_lv (lv' := [(0, .ref (a 0))]) [0] rfl ?_
    exact w_X12_evenings_J29 C y1 hf
  · replace hf := ite_f hf c3
    refine wa_aload_n C 0 16 dX12_evenings_15 rfl rfl ?_
    refine wa_get C 19 0 0 34 dX12_evenings_16 rfl iX12 q1483 rfl (Nat.le_of_ble_eq_true rfl) rfl rfl rfl ?_
    refine wa_iconst (v := 0) C 20 dX12_evenings_19 rfl rfl ?_
    obtain ⟨g5, hf⟩ := grd_ex hf
    refine wa_iald C 21 0 10 dX12_evenings_20 rfl rfl rfl (vi_in g5) ?_
    refine wa_iload_n C 1 22 dX12_evenings_21 rfl rfl ?_
    refine wa_iadd C 23 dX12_evenings_22 rfl ?_
    refine wa_sipush (v := 9999) C 26 dX12_evenings_23 rfl rfl ?_
    refine wa_icmp_le C 35 29 dX12_evenings_26 rfl rfl (fun c6 => ?_) (fun c6 => ?_)
    · replace hf := ite_t hf c6
      refine wa_aload_n C 0 36 dX12_evenings_35 rfl rfl ?_
      obtain ⟨q7, hq7, hf⟩ := bind_ex hf
      refine wa_callVAv (b1 := 0) (q1 := 0) (ci := 12) (As := []) C 39 dX12_evenings_36 rfl kv_X12_389 (c_X12_keeps0 hq7) ⟨rfl, rfl⟩ ⟨Nat.le_of_ble_eq_true rfl, Nat.le_of_ble_eq_true rfl⟩ rfl rfl rfl rfl rfl ⟨Nat.zero_le _, Nat.zero_le _⟩ (Nat.le_of_ble_eq_true rfl) ?_
      refine wa_iconst (v := 0) C 40 dX12_evenings_39 rfl rfl ?_
      refine wa_istore_n (lv' := [(0, .ref (a 0)), (1, .int p0), (2, .int (0 : Int32))]) C [1, 2, 0] 41 dX12_evenings_40 rfl (Nat.le_of_ble_eq_true rfl) rfl ?_
      exact w_X12_evenings_L41 C FUEL (0 : Int32) q7 hf
    · replace hf := ite_f hf c6
      refine wa_lv (lv' := [(0, .ref (a 0))]) [0] rfl ?_
      exact w_X12_evenings_J29 C y1 hf
def f_X12_moves (v : MS) (p0 : Int32) (p1 : Int32) (p2 : Int32) : Option (MS) := (f_X12_sizeOf v p0 p2).bind (fun q1 => (f_X12_leaves v p0 p1).bind (fun q2 => grd (vi ((p0 + (2 : Int32)) + p1) 172) (bnd (q2.1, q2.2.1, uA q2.2.2 10 (((p0 + (2 : Int32)) + p1)).toNatClampNeg p2) (fun y4 => grd (vi ((p0 + (14 : Int32)) + p1) 172) (bnd (y4.1, y4.2.1, uA y4.2.2 10 (((p0 + (14 : Int32)) + p1)).toNatClampNeg q1) (fun y6 => grd (vi ((p0 + (26 : Int32)) + p1) 172) (bnd (y6.1, y6.2.1, uA y6.2.2 10 (((p0 + (26 : Int32)) + p1)).toNatClampNeg (0 : Int32)) (fun y8 => (f_X12_falls0 y8 p0).bind (fun q9 => some (q9))))))))))
set_option maxRecDepth 20000 in
theorem c_X12_moves {l : Launch} {D : va_G} {dT : Nat → ClassId} {a : Nat → Nat} {v : MS} {p0 : Int32} {p1 : Int32} {p2 : Int32} {res : MS} (hf : f_X12_moves v p0 p1 p2 = some res) : CTv l yX12_moves cX12_moves 5 none ({ frames := 2, cells := 0, slots := 0, locals := 49 } : Room) D dT [.ref (a 0), .int p0, .int p1, .int p2] ([wM dT a v]) ([wM dT a res]) := by
  refine CTv.of (by decide) (Nat.le_of_ble_eq_true rfl) rfl ?_
  intro p e s m args below meth c A C
  unfold f_X12_moves at hf
  refine wa_aload_n C 0 1 dX12_moves_0 rfl rfl ?_
  refine wa_iload_n C 1 2 dX12_moves_1 rfl rfl ?_
  refine wa_iload_n C 3 3 dX12_moves_2 rfl rfl ?_
  obtain ⟨q1, hq1, hf⟩ := bind_ex hf
  refine wa_callVAi (b1 := 0) (q1 := 0) (ci := 12) (As := [.int p0, .int p2]) C 6 dX12_moves_3 rfl kv_X12_297 (c_X12_sizeOf hq1) ⟨rfl, rfl⟩ ⟨Nat.le_of_ble_eq_true rfl, Nat.le_of_ble_eq_true rfl⟩ rfl rfl rfl rfl rfl ⟨Nat.zero_le _, Nat.zero_le _⟩ (Nat.le_of_ble_eq_true rfl) ?_
  refine wa_istore (lv' := [(0, .ref (a 0)), (1, .int p0), (2, .int p1), (3, .int p2), (4, .int q1)]) C [1, 2, 3, 4, 0] 8 dX12_moves_6 rfl (Nat.le_of_ble_eq_true rfl) rfl ?_
  refine wa_aload_n C 0 9 dX12_moves_8 rfl rfl ?_
  refine wa_iload_n C 1 10 dX12_moves_9 rfl rfl ?_
  refine wa_iload_n C 2 11 dX12_moves_10 rfl rfl ?_
  obtain ⟨q2, hq2, hf⟩ := bind_ex hf
  refine wa_callVAv (b1 := 0) (q1 := 0) (ci := 12) (As := [.int p0, .int p1]) C 14 dX12_moves_11 rfl kv_X12_325 (c_X12_leaves hq2) ⟨rfl, rfl⟩ ⟨Nat.le_of_ble_eq_true rfl, Nat.le_of_ble_eq_true rfl⟩ rfl rfl rfl rfl rfl ⟨Nat.zero_le _, Nat.zero_le _⟩ (Nat.le_of_ble_eq_true rfl) ?_
  refine wa_aload_n C 0 15 dX12_moves_14 rfl rfl ?_
  refine wa_get C 18 0 0 34 dX12_moves_15 rfl iX12 q1483 rfl (Nat.le_of_ble_eq_true rfl) rfl rfl rfl ?_
  refine wa_iload_n C 1 19 dX12_moves_18 rfl rfl ?_
  refine wa_iconst (v := 2) C 20 dX12_moves_19 rfl rfl ?_
  refine wa_iadd C 21 dX12_moves_20 rfl ?_
  refine wa_iload_n C 2 22 dX12_moves_21 rfl rfl ?_
  refine wa_iadd C 23 dX12_moves_22 rfl ?_
  refine wa_iload_n C 3 24 dX12_moves_23 rfl rfl ?_
  obtain ⟨g3, hf⟩ := grd_ex hf
  obtain ⟨y4, ey4, hf⟩ := bnd_ex hf
  refine wa_iast (ws' := [wM dT a y4]) C 25 0 10 dX12_moves_24 rfl rfl rfl (vi_in g3) (by rw [ey4]; rfl) ?_
  refine wa_aload_n C 0 26 dX12_moves_25 rfl rfl ?_
  refine wa_get C 29 0 0 34 dX12_moves_26 rfl iX12 q1483 rfl (Nat.le_of_ble_eq_true rfl) rfl rfl rfl ?_
  refine wa_iload_n C 1 30 dX12_moves_29 rfl rfl ?_
  refine wa_bipush (v := 14) C 32 dX12_moves_30 rfl rfl ?_
  refine wa_iadd C 33 dX12_moves_32 rfl ?_
  refine wa_iload_n C 2 34 dX12_moves_33 rfl rfl ?_
  refine wa_iadd C 35 dX12_moves_34 rfl ?_
  refine wa_iload C 4 37 dX12_moves_35 rfl rfl ?_
  obtain ⟨g5, hf⟩ := grd_ex hf
  obtain ⟨y6, ey6, hf⟩ := bnd_ex hf
  refine wa_iast (ws' := [wM dT a y6]) C 38 0 10 dX12_moves_37 rfl rfl rfl (vi_in g5) (by rw [ey6]; rfl) ?_
  refine wa_aload_n C 0 39 dX12_moves_38 rfl rfl ?_
  refine wa_get C 42 0 0 34 dX12_moves_39 rfl iX12 q1483 rfl (Nat.le_of_ble_eq_true rfl) rfl rfl rfl ?_
  refine wa_iload_n C 1 43 dX12_moves_42 rfl rfl ?_
  refine wa_bipush (v := 26) C 45 dX12_moves_43 rfl rfl ?_
  refine wa_iadd C 46 dX12_moves_45 rfl ?_
  refine wa_iload_n C 2 47 dX12_moves_46 rfl rfl ?_
  refine wa_iadd C 48 dX12_moves_47 rfl ?_
  refine wa_iconst (v := 0) C 49 dX12_moves_48 rfl rfl ?_
  obtain ⟨g7, hf⟩ := grd_ex hf
  obtain ⟨y8, ey8, hf⟩ := bnd_ex hf
  refine wa_iast (ws' := [wM dT a y8]) C 50 0 10 dX12_moves_49 rfl rfl rfl (vi_in g7) (by rw [ey8]; rfl) ?_
  refine wa_aload_n C 0 51 dX12_moves_50 rfl rfl ?_
  refine wa_iload_n C 1 52 dX12_moves_51 rfl rfl ?_
  obtain ⟨q9, hq9, hf⟩ := bind_ex hf
  refine wa_callVAv (b1 := 0) (q1 := 0) (ci := 12) (As := [.int p0]) C 55 dX12_moves_52 rfl kv_X12_328 (c_X12_falls0 hq9) ⟨rfl, rfl⟩ ⟨Nat.le_of_ble_eq_true rfl, Nat.le_of_ble_eq_true rfl⟩ rfl rfl rfl rfl rfl ⟨Nat.zero_le _, Nat.zero_le _⟩ (Nat.le_of_ble_eq_true rfl) ?_
  cases hf
  exact wa_vret C dX12_moves_55 rfl
theorem kv_X12_392 : KV RX12 392 yX12_moves cX12_moves 5 none 3 := KV.mk q1929 q1931 qs102 q13 q1932 ⟨by decide, by decide, by decide +kernel⟩
def f_X12_move (v : MS) (p0 : Int32) (p1 : Int32) : Option (Int32 × MS) := bnd (upd v.1 0 (0 : Int32), v.2) (fun y1 => (f_X12_isPerson y1 p0).bind (fun q2 => (if q2.1 = 0 then some ((0 : Int32), q2.2) else (f_X12_isHouse q2.2 p1).bind (fun q4 => (if q4.1 = 0 then some ((0 : Int32), q4.2) else grd (vi ((2 : Int32) + p0) 172) (bnd (q4.2.2.2 10 (((2 : Int32) + p0)).toNatClampNeg) (fun x7 => (if x7 = p1 then (f_X12_refuses q4.2 (1 : Int32)).bind (fun q11 => some (q11.1, q11.2)) else (f_X12_keeps0 q4.2).bind (fun q9 => (f_X12_moves q9 (0 : Int32) p0 p1).bind (fun q10 => some (x7, q10)))))))))))
set_option maxRecDepth 20000 in
theorem c_X12_move {l : Launch} {D : va_G} {dT : Nat → ClassId} {a : Nat → Nat} {v : MS} {p0 : Int32} {p1 : Int32} {res : Int32 × MS} (hf : f_X12_move v p0 p1 = some res) : CTi l yX12_move cX12_move 4 (some .int) ({ frames := 3, cells := 0, slots := 0, locals := 73 } : Room) D dT [.ref (a 0), .int p0, .int p1] ([wM dT a v]) ([wM dT a res.2]) res.1 := by
  refine CTi.of (by decide) (Nat.le_of_ble_eq_true rfl) rfl ?_
  intro p e s m args below meth c A C
  unfold f_X12_move at hf
  refine wa_aload_n C 0 1 dX12_move_0 rfl rfl ?_
  refine wa_iconst (v := 0) C 2 dX12_move_1 rfl rfl ?_
  obtain ⟨y1, ey1, hf⟩ := bnd_ex hf
  refine wa_put (ws' := [wM dT a y1]) C 5 0 0 0 tyX12 dX12_move_2 rfl iX12 tyX12_ok nmX12 q1449 rfl (Nat.le_of_ble_eq_true rfl) rfl rfl rfl rfl rfl (Nat.le_of_ble_eq_true rfl) (by rw [ey1]; rfl) ?_
  refine wa_aload_n C 0 6 dX12_move_5 rfl rfl ?_
  refine wa_iload_n C 1 7 dX12_move_6 rfl rfl ?_
  obtain ⟨q2, hq2, hf⟩ := bind_ex hf
  refine wa_callVAi (b1 := 0) (q1 := 0) (ci := 12) (As := [.int p0]) C 10 dX12_move_7 rfl kv_X12_368 (c_X12_isPerson hq2) ⟨rfl, rfl⟩ ⟨Nat.le_of_ble_eq_true rfl, Nat.le_of_ble_eq_true rfl⟩ rfl rfl rfl rfl rfl ⟨Nat.zero_le _, Nat.zero_le _⟩ (Nat.le_of_ble_eq_true rfl) ?_
  refine wa_if_eq C 21 13 dX12_move_10 rfl rfl (fun c3 => ?_) (fun c3 => ?_)
  · replace hf := ite_t hf c3
    refine wa_iconst (v := 0) C 22 dX12_move_21 rfl rfl ?_
    cases hf
    exact wa_iret C dX12_move_22 rfl rfl
  · replace hf := ite_f hf c3
    refine wa_aload_n C 0 14 dX12_move_13 rfl rfl ?_
    refine wa_iload_n C 2 15 dX12_move_14 rfl rfl ?_
    obtain ⟨q4, hq4, hf⟩ := bind_ex hf
    refine wa_callVAi (b1 := 0) (q1 := 0) (ci := 12) (As := [.int p1]) C 18 dX12_move_15 rfl kv_X12_383 (c_X12_isHouse hq4) ⟨rfl, rfl⟩ ⟨Nat.le_of_ble_eq_true rfl, Nat.le_of_ble_eq_true rfl⟩ rfl rfl rfl rfl rfl ⟨Nat.zero_le _, Nat.zero_le _⟩ (Nat.le_of_ble_eq_true rfl) ?_
    refine wa_if_ne C 23 21 dX12_move_18 rfl rfl (fun c5 => ?_) (fun c5 => ?_)
    · replace hf := ite_f hf c5
      refine wa_aload_n C 0 24 dX12_move_23 rfl rfl ?_
      refine wa_get C 27 0 0 34 dX12_move_24 rfl iX12 q1483 rfl (Nat.le_of_ble_eq_true rfl) rfl rfl rfl ?_
      refine wa_iconst (v := 2) C 28 dX12_move_27 rfl rfl ?_
      refine wa_iload_n C 1 29 dX12_move_28 rfl rfl ?_
      refine wa_iadd C 30 dX12_move_29 rfl ?_
      obtain ⟨g6, hf⟩ := grd_ex hf
      refine wa_iald C 31 0 10 dX12_move_30 rfl rfl rfl (vi_in g6) ?_
      obtain ⟨x7, ex7, hf⟩ := bnd_ex hf
      refine wa_topi ex7 ?_
      refine wa_istore_n (lv' := [(0, .ref (a 0)), (1, .int p0), (2, .int p1), (3, .int x7)]) C [1, 2, 3, 0] 32 dX12_move_31 rfl (Nat.le_of_ble_eq_true rfl) rfl ?_
      refine wa_iload_n C 3 33 dX12_move_32 rfl rfl ?_
      refine wa_iload_n C 2 34 dX12_move_33 rfl rfl ?_
      refine wa_icmp_ne C 43 37 dX12_move_34 rfl rfl (fun c8 => ?_) (fun c8 => ?_)
      · replace hf := ite_f hf c8
        refine wa_aload_n C 0 44 dX12_move_43 rfl rfl ?_
        obtain ⟨q9, hq9, hf⟩ := bind_ex hf
        refine wa_callVAv (b1 := 0) (q1 := 0) (ci := 12) (As := []) C 47 dX12_move_44 rfl kv_X12_389 (c_X12_keeps0 hq9) ⟨rfl, rfl⟩ ⟨Nat.le_of_ble_eq_true rfl, Nat.le_of_ble_eq_true rfl⟩ rfl rfl rfl rfl rfl ⟨Nat.zero_le _, Nat.zero_le _⟩ (Nat.le_of_ble_eq_true rfl) ?_
        refine wa_aload_n C 0 48 dX12_move_47 rfl rfl ?_
        refine wa_iconst (v := 0) C 49 dX12_move_48 rfl rfl ?_
        refine wa_iload_n C 1 50 dX12_move_49 rfl rfl ?_
        refine wa_iload_n C 2 51 dX12_move_50 rfl rfl ?_
        obtain ⟨q10, hq10, hf⟩ := bind_ex hf
        refine wa_callVAv (b1 := 0) (q1 := 0) (ci := 12) (As := [.int (0 : Int32), .int p0, .int p1]) C 54 dX12_move_51 rfl kv_X12_392 (c_X12_moves hq10) ⟨rfl, rfl⟩ ⟨Nat.le_of_ble_eq_true rfl, Nat.le_of_ble_eq_true rfl⟩ rfl rfl rfl rfl rfl ⟨Nat.zero_le _, Nat.zero_le _⟩ (Nat.le_of_ble_eq_true rfl) ?_
        refine wa_iload_n C 3 55 dX12_move_54 rfl rfl ?_
        cases hf
        exact wa_iret C dX12_move_55 rfl rfl
      · replace hf := ite_t hf c8
        refine wa_aload_n C 0 38 dX12_move_37 rfl rfl ?_
        refine wa_iconst (v := 1) C 39 dX12_move_38 rfl rfl ?_
        obtain ⟨q11, hq11, hf⟩ := bind_ex hf
        refine wa_callVAi (b1 := 0) (q1 := 0) (ci := 12) (As := [.int (1 : Int32)]) C 42 dX12_move_39 rfl kv_X12_386 (c_X12_refuses hq11) ⟨rfl, rfl⟩ ⟨Nat.le_of_ble_eq_true rfl, Nat.le_of_ble_eq_true rfl⟩ rfl rfl rfl rfl rfl ⟨Nat.zero_le _, Nat.zero_le _⟩ (Nat.le_of_ble_eq_true rfl) ?_
        cases hf
        exact wa_iret C dX12_move_42 rfl rfl
    · replace hf := ite_t hf c5
      refine wa_iconst (v := 0) C 22 dX12_move_21 rfl rfl ?_
      cases hf
      exact wa_iret C dX12_move_22 rfl rfl
def f_X12_foundsBy (v : MS) (p0 : Int32) (p1 : Int32) : Option (MS) := (f_X12_leaves v p0 p1).bind (fun q1 => grd (vi (p0 + (1 : Int32)) 172) (grd (vi ((p0 + (2 : Int32)) + p1) 172) (bnd (q1.1, q1.2.1, uA q1.2.2 10 (((p0 + (2 : Int32)) + p1)).toNatClampNeg (q1.2.2 10 ((p0 + (1 : Int32))).toNatClampNeg)) (fun y4 => grd (vi ((p0 + (14 : Int32)) + p1) 172) (bnd (y4.1, y4.2.1, uA y4.2.2 10 (((p0 + (14 : Int32)) + p1)).toNatClampNeg (0 : Int32)) (fun y6 => grd (vi ((p0 + (26 : Int32)) + p1) 172) (bnd (y6.1, y6.2.1, uA y6.2.2 10 (((p0 + (26 : Int32)) + p1)).toNatClampNeg (0 : Int32)) (fun y8 => (f_X12_founds y8 p0).bind (fun q9 => some (q9))))))))))
set_option maxRecDepth 20000 in
theorem c_X12_foundsBy {l : Launch} {D : va_G} {dT : Nat → ClassId} {a : Nat → Nat} {v : MS} {p0 : Int32} {p1 : Int32} {res : MS} (hf : f_X12_foundsBy v p0 p1 = some res) : CTv l yX12_foundsBy cX12_foundsBy 3 none ({ frames := 1, cells := 0, slots := 0, locals := 23 } : Room) D dT [.ref (a 0), .int p0, .int p1] ([wM dT a v]) ([wM dT a res]) := by
  refine CTv.of (by decide) (Nat.le_of_ble_eq_true rfl) rfl ?_
  intro p e s m args below meth c A C
  unfold f_X12_foundsBy at hf
  refine wa_aload_n C 0 1 dX12_foundsBy_0 rfl rfl ?_
  refine wa_iload_n C 1 2 dX12_foundsBy_1 rfl rfl ?_
  refine wa_iload_n C 2 3 dX12_foundsBy_2 rfl rfl ?_
  obtain ⟨q1, hq1, hf⟩ := bind_ex hf
  refine wa_callVAv (b1 := 0) (q1 := 0) (ci := 12) (As := [.int p0, .int p1]) C 6 dX12_foundsBy_3 rfl kv_X12_325 (c_X12_leaves hq1) ⟨rfl, rfl⟩ ⟨Nat.le_of_ble_eq_true rfl, Nat.le_of_ble_eq_true rfl⟩ rfl rfl rfl rfl rfl ⟨Nat.zero_le _, Nat.zero_le _⟩ (Nat.le_of_ble_eq_true rfl) ?_
  refine wa_aload_n C 0 7 dX12_foundsBy_6 rfl rfl ?_
  refine wa_get C 10 0 0 34 dX12_foundsBy_7 rfl iX12 q1483 rfl (Nat.le_of_ble_eq_true rfl) rfl rfl rfl ?_
  refine wa_iload_n C 1 11 dX12_foundsBy_10 rfl rfl ?_
  refine wa_iconst (v := 2) C 12 dX12_foundsBy_11 rfl rfl ?_
  refine wa_iadd C 13 dX12_foundsBy_12 rfl ?_
  refine wa_iload_n C 2 14 dX12_foundsBy_13 rfl rfl ?_
  refine wa_iadd C 15 dX12_foundsBy_14 rfl ?_
  refine wa_aload_n C 0 16 dX12_foundsBy_15 rfl rfl ?_
  refine wa_get C 19 0 0 34 dX12_foundsBy_16 rfl iX12 q1483 rfl (Nat.le_of_ble_eq_true rfl) rfl rfl rfl ?_
  refine wa_iload_n C 1 20 dX12_foundsBy_19 rfl rfl ?_
  refine wa_iconst (v := 1) C 21 dX12_foundsBy_20 rfl rfl ?_
  refine wa_iadd C 22 dX12_foundsBy_21 rfl ?_
  obtain ⟨g2, hf⟩ := grd_ex hf
  refine wa_iald C 23 0 10 dX12_foundsBy_22 rfl rfl rfl (vi_in g2) ?_
  obtain ⟨g3, hf⟩ := grd_ex hf
  obtain ⟨y4, ey4, hf⟩ := bnd_ex hf
  refine wa_iast (ws' := [wM dT a y4]) C 24 0 10 dX12_foundsBy_23 rfl rfl rfl (vi_in g3) (by rw [ey4]; rfl) ?_
  refine wa_aload_n C 0 25 dX12_foundsBy_24 rfl rfl ?_
  refine wa_get C 28 0 0 34 dX12_foundsBy_25 rfl iX12 q1483 rfl (Nat.le_of_ble_eq_true rfl) rfl rfl rfl ?_
  refine wa_iload_n C 1 29 dX12_foundsBy_28 rfl rfl ?_
  refine wa_bipush (v := 14) C 31 dX12_foundsBy_29 rfl rfl ?_
  refine wa_iadd C 32 dX12_foundsBy_31 rfl ?_
  refine wa_iload_n C 2 33 dX12_foundsBy_32 rfl rfl ?_
  refine wa_iadd C 34 dX12_foundsBy_33 rfl ?_
  refine wa_iconst (v := 0) C 35 dX12_foundsBy_34 rfl rfl ?_
  obtain ⟨g5, hf⟩ := grd_ex hf
  obtain ⟨y6, ey6, hf⟩ := bnd_ex hf
  refine wa_iast (ws' := [wM dT a y6]) C 36 0 10 dX12_foundsBy_35 rfl rfl rfl (vi_in g5) (by rw [ey6]; rfl) ?_
  refine wa_aload_n C 0 37 dX12_foundsBy_36 rfl rfl ?_
  refine wa_get C 40 0 0 34 dX12_foundsBy_37 rfl iX12 q1483 rfl (Nat.le_of_ble_eq_true rfl) rfl rfl rfl ?_
  refine wa_iload_n C 1 41 dX12_foundsBy_40 rfl rfl ?_
  refine wa_bipush (v := 26) C 43 dX12_foundsBy_41 rfl rfl ?_
  refine wa_iadd C 44 dX12_foundsBy_43 rfl ?_
  refine wa_iload_n C 2 45 dX12_foundsBy_44 rfl rfl ?_
  refine wa_iadd C 46 dX12_foundsBy_45 rfl ?_
  refine wa_iconst (v := 0) C 47 dX12_foundsBy_46 rfl rfl ?_
  obtain ⟨g7, hf⟩ := grd_ex hf
  obtain ⟨y8, ey8, hf⟩ := bnd_ex hf
  refine wa_iast (ws' := [wM dT a y8]) C 48 0 10 dX12_foundsBy_47 rfl rfl rfl (vi_in g7) (by rw [ey8]; rfl) ?_
  refine wa_aload_n C 0 49 dX12_foundsBy_48 rfl rfl ?_
  refine wa_iload_n C 1 50 dX12_foundsBy_49 rfl rfl ?_
  obtain ⟨q9, hq9, hf⟩ := bind_ex hf
  refine wa_callVAv (b1 := 0) (q1 := 0) (ci := 12) (As := [.int p0]) C 53 dX12_foundsBy_50 rfl kv_X12_331 (c_X12_founds hq9) ⟨rfl, rfl⟩ ⟨Nat.le_of_ble_eq_true rfl, Nat.le_of_ble_eq_true rfl⟩ rfl rfl rfl rfl rfl ⟨Nat.zero_le _, Nat.zero_le _⟩ (Nat.le_of_ble_eq_true rfl) ?_
  cases hf
  exact wa_vret C dX12_foundsBy_53 rfl
theorem kv_X12_396 : KV RX12 396 yX12_foundsBy cX12_foundsBy 3 none 2 := KV.mk q1937 q1939 qs103 q13 q1940 ⟨by decide, by decide, by decide +kernel⟩
def f_X12_found (v : MS) (p0 : Int32) : Option (Int32 × MS) := bnd (upd v.1 0 (0 : Int32), v.2) (fun y1 => (f_X12_isPerson y1 p0).bind (fun q2 => (if q2.1 = 0 then some ((0 : Int32), q2.2) else (f_X12_withOne q2.2 (0 : Int32) p0).bind (fun q4 => (if q4 = 0 then (f_X12_refuses q2.2 (1 : Int32)).bind (fun q9 => some (q9.1, q9.2)) else (f_X12_keeps0 q2.2).bind (fun q6 => (f_X12_foundsBy q6 (0 : Int32) p0).bind (fun q7 => grd (vi (1 : Int32) 172) (some ((q7.2.2 10 ((1 : Int32)).toNatClampNeg), q7)))))))))
set_option maxRecDepth 20000 in
theorem c_X12_found {l : Launch} {D : va_G} {dT : Nat → ClassId} {a : Nat → Nat} {v : MS} {p0 : Int32} {res : Int32 × MS} (hf : f_X12_found v p0 = some res) : CTi l yX12_found cX12_found 2 (some .int) ({ frames := 2, cells := 0, slots := 0, locals := 46 } : Room) D dT [.ref (a 0), .int p0] ([wM dT a v]) ([wM dT a res.2]) res.1 := by
  refine CTi.of (by decide) (Nat.le_of_ble_eq_true rfl) rfl ?_
  intro p e s m args below meth c A C
  unfold f_X12_found at hf
  refine wa_aload_n C 0 1 dX12_found_0 rfl rfl ?_
  refine wa_iconst (v := 0) C 2 dX12_found_1 rfl rfl ?_
  obtain ⟨y1, ey1, hf⟩ := bnd_ex hf
  refine wa_put (ws' := [wM dT a y1]) C 5 0 0 0 tyX12 dX12_found_2 rfl iX12 tyX12_ok nmX12 q1449 rfl (Nat.le_of_ble_eq_true rfl) rfl rfl rfl rfl rfl (Nat.le_of_ble_eq_true rfl) (by rw [ey1]; rfl) ?_
  refine wa_aload_n C 0 6 dX12_found_5 rfl rfl ?_
  refine wa_iload_n C 1 7 dX12_found_6 rfl rfl ?_
  obtain ⟨q2, hq2, hf⟩ := bind_ex hf
  refine wa_callVAi (b1 := 0) (q1 := 0) (ci := 12) (As := [.int p0]) C 10 dX12_found_7 rfl kv_X12_368 (c_X12_isPerson hq2) ⟨rfl, rfl⟩ ⟨Nat.le_of_ble_eq_true rfl, Nat.le_of_ble_eq_true rfl⟩ rfl rfl rfl rfl rfl ⟨Nat.zero_le _, Nat.zero_le _⟩ (Nat.le_of_ble_eq_true rfl) ?_
  refine wa_if_ne C 15 13 dX12_found_10 rfl rfl (fun c3 => ?_) (fun c3 => ?_)
  · replace hf := ite_f hf c3
    refine wa_aload_n C 0 16 dX12_found_15 rfl rfl ?_
    refine wa_iconst (v := 0) C 17 dX12_found_16 rfl rfl ?_
    refine wa_iload_n C 1 18 dX12_found_17 rfl rfl ?_
    obtain ⟨q4, hq4, hf⟩ := bind_ex hf
    refine wa_callVAi (b1 := 0) (q1 := 0) (ci := 12) (As := [.int (0 : Int32), .int p0]) C 21 dX12_found_18 rfl kv_X12_374 (c_X12_withOne hq4) ⟨rfl, rfl⟩ ⟨Nat.le_of_ble_eq_true rfl, Nat.le_of_ble_eq_true rfl⟩ rfl rfl rfl rfl rfl ⟨Nat.zero_le _, Nat.zero_le _⟩ (Nat.le_of_ble_eq_true rfl) ?_
    refine wa_if_ne C 30 24 dX12_found_21 rfl rfl (fun c5 => ?_) (fun c5 => ?_)
    · replace hf := ite_f hf c5
      refine wa_aload_n C 0 31 dX12_found_30 rfl rfl ?_
      obtain ⟨q6, hq6, hf⟩ := bind_ex hf
      refine wa_callVAv (b1 := 0) (q1 := 0) (ci := 12) (As := []) C 34 dX12_found_31 rfl kv_X12_389 (c_X12_keeps0 hq6) ⟨rfl, rfl⟩ ⟨Nat.le_of_ble_eq_true rfl, Nat.le_of_ble_eq_true rfl⟩ rfl rfl rfl rfl rfl ⟨Nat.zero_le _, Nat.zero_le _⟩ (Nat.le_of_ble_eq_true rfl) ?_
      refine wa_aload_n C 0 35 dX12_found_34 rfl rfl ?_
      refine wa_iconst (v := 0) C 36 dX12_found_35 rfl rfl ?_
      refine wa_iload_n C 1 37 dX12_found_36 rfl rfl ?_
      obtain ⟨q7, hq7, hf⟩ := bind_ex hf
      refine wa_callVAv (b1 := 0) (q1 := 0) (ci := 12) (As := [.int (0 : Int32), .int p0]) C 40 dX12_found_37 rfl kv_X12_396 (c_X12_foundsBy hq7) ⟨rfl, rfl⟩ ⟨Nat.le_of_ble_eq_true rfl, Nat.le_of_ble_eq_true rfl⟩ rfl rfl rfl rfl rfl ⟨Nat.zero_le _, Nat.zero_le _⟩ (Nat.le_of_ble_eq_true rfl) ?_
      refine wa_aload_n C 0 41 dX12_found_40 rfl rfl ?_
      refine wa_get C 44 0 0 34 dX12_found_41 rfl iX12 q1483 rfl (Nat.le_of_ble_eq_true rfl) rfl rfl rfl ?_
      refine wa_iconst (v := 1) C 45 dX12_found_44 rfl rfl ?_
      obtain ⟨g8, hf⟩ := grd_ex hf
      refine wa_iald C 46 0 10 dX12_found_45 rfl rfl rfl (vi_in g8) ?_
      cases hf
      exact wa_iret C dX12_found_46 rfl rfl
    · replace hf := ite_t hf c5
      refine wa_aload_n C 0 25 dX12_found_24 rfl rfl ?_
      refine wa_iconst (v := 1) C 26 dX12_found_25 rfl rfl ?_
      obtain ⟨q9, hq9, hf⟩ := bind_ex hf
      refine wa_callVAi (b1 := 0) (q1 := 0) (ci := 12) (As := [.int (1 : Int32)]) C 29 dX12_found_26 rfl kv_X12_386 (c_X12_refuses hq9) ⟨rfl, rfl⟩ ⟨Nat.le_of_ble_eq_true rfl, Nat.le_of_ble_eq_true rfl⟩ rfl rfl rfl rfl rfl ⟨Nat.zero_le _, Nat.zero_le _⟩ (Nat.le_of_ble_eq_true rfl) ?_
      cases hf
      exact wa_iret C dX12_found_29 rfl rfl
  · replace hf := ite_t hf c3
    refine wa_iconst (v := 0) C 14 dX12_found_13 rfl rfl ?_
    cases hf
    exact wa_iret C dX12_found_14 rfl rfl
def f_X12_joins_L11 (l1 : Int32) (l2 : Int32) (l3 : Int32) (l4 : Int32) : Nat → Int32 → MS → Option (MS)
  | 0, _, _ => none
  | n + 1, l5, z0 => (if (z0.1 1) ≤ l5 then (f_X12_falls0 z0 l1).bind (fun q3 => some (q3)) else grd (vi ((l1 + (2 : Int32)) + l5) 172) ((if (z0.2.2 10 (((l1 + (2 : Int32)) + l5)).toNatClampNeg) = l2 then grd (vi ((l1 + (2 : Int32)) + l5) 172) (bnd (z0.1, z0.2.1, uA z0.2.2 10 (((l1 + (2 : Int32)) + l5)).toNatClampNeg l3) (fun y7 => grd (vi ((l1 + (14 : Int32)) + l5) 172) (grd (vi ((l1 + (14 : Int32)) + l5) 172) (bnd (y7.1, y7.2.1, uA y7.2.2 10 (((l1 + (14 : Int32)) + l5)).toNatClampNeg ((y7.2.2 10 (((l1 + (14 : Int32)) + l5)).toNatClampNeg) + l4)) (fun y10 => grd (vi ((l1 + (26 : Int32)) + l5) 172) (bnd (y10.1, y10.2.1, uA y10.2.2 10 (((l1 + (26 : Int32)) + l5)).toNatClampNeg (0 : Int32)) (fun y12 => bnd (l5 + 1) (fun x13 => f_X12_joins_L11 l1 l2 l3 l4 n x13 y12)))))))) else bnd (l5 + 1) (fun x14 => f_X12_joins_L11 l1 l2 l3 l4 n x14 z0))))
def f_X12_joins (v : MS) (p0 : Int32) (p1 : Int32) (p2 : Int32) : Option (MS) := (f_X12_sizeOf v p0 p2).bind (fun q1 => f_X12_joins_L11 p0 p1 p2 q1 FUEL (0 : Int32) v)
set_option maxRecDepth 20000 in
theorem w_X12_joins_L11 {p : Program} {l : Launch} {e : Env} {s : State} {m : MethodId} {args : Array Value} {below : List Frame} {meth : Method} {c : Code} {D : va_G} {A : Nat → Prop} {dT : Nat → ClassId} {a : Nat → Nat} {res : MS} {l1 : Int32} {l2 : Int32} {l3 : Int32} {l4 : Int32} (C : Cx p s m args meth c cX12_joins 6 RX12 none D A dT) : ∀ (n : Nat) (l5 : Int32) (z0 : MS), f_X12_joins_L11 l1 l2 l3 l4 n l5 z0 = some res → WA p l e ({ frames := 2, cells := 0, slots := 0, locals := 49 } : Room) s m args below meth c (MQ below (QV D dT A ([wM dT a res])) args s 0 0 A) D A 0 0 6 11 ([wM dT a z0]) [(0, .ref (a 0)), (1, .int l1), (2, .int l2), (3, .int l3), (4, .int l4), (5, .int l5)] [] := by
  intro n
  induction n with
  | zero => intro l5 z0 hf; cases hf
  | succ n ih =>
    intro l5 z0 hf
    unfold f_X12_joins_L11 at hf
    refine wa_iload C 5 13 dX12_joins_11 rfl rfl ?_
    refine wa_aload_n C 0 14 dX12_joins_13 rfl rfl ?_
    refine wa_get C 17 0 0 1 dX12_joins_14 rfl iX12 q1450 rfl (Nat.le_of_ble_eq_true rfl) rfl rfl rfl ?_
    refine wa_icmp_ge C 86 20 dX12_joins_17 rfl rfl (fun c2 => ?_) (fun c2 => ?_)
    · replace hf := ite_t hf c2
      refine wa_aload_n C 0 87 dX12_joins_86 rfl rfl ?_
      refine wa_iload_n C 1 88 dX12_joins_87 rfl rfl ?_
      obtain ⟨q3, hq3, hf⟩ := bind_ex hf
      refine wa_callVAv (b1 := 0) (q1 := 0) (ci := 12) (As := [.int l1]) C 91 dX12_joins_88 rfl kv_X12_328 (c_X12_falls0 hq3) ⟨rfl, rfl⟩ ⟨Nat.le_of_ble_eq_true rfl, Nat.le_of_ble_eq_true rfl⟩ rfl rfl rfl rfl rfl ⟨Nat.zero_le _, Nat.zero_le _⟩ (Nat.le_of_ble_eq_true rfl) ?_
      cases hf
      exact wa_vret C dX12_joins_91 rfl
    · replace hf := ite_f hf c2
      refine wa_aload_n C 0 21 dX12_joins_20 rfl rfl ?_
      refine wa_get C 24 0 0 34 dX12_joins_21 rfl iX12 q1483 rfl (Nat.le_of_ble_eq_true rfl) rfl rfl rfl ?_
      refine wa_iload_n C 1 25 dX12_joins_24 rfl rfl ?_
      refine wa_iconst (v := 2) C 26 dX12_joins_25 rfl rfl ?_
      refine wa_iadd C 27 dX12_joins_26 rfl ?_
      refine wa_iload C 5 29 dX12_joins_27 rfl rfl ?_
      refine wa_iadd C 30 dX12_joins_29 rfl ?_
      obtain ⟨g4, hf⟩ := grd_ex hf
      refine wa_iald C 31 0 10 dX12_joins_30 rfl rfl rfl (vi_in g4) ?_
      refine wa_iload_n C 2 32 dX12_joins_31 rfl rfl ?_
      refine wa_icmp_eq C 38 35 dX12_joins_32 rfl rfl (fun c5 => ?_) (fun c5 => ?_)
      · replace hf := ite_t hf c5
        refine wa_aload_n C 0 39 dX12_joins_38 rfl rfl ?_
        refine wa_get C 42 0 0 34 dX12_joins_39 rfl iX12 q1483 rfl (Nat.le_of_ble_eq_true rfl) rfl rfl rfl ?_
        refine wa_iload_n C 1 43 dX12_joins_42 rfl rfl ?_
        refine wa_iconst (v := 2) C 44 dX12_joins_43 rfl rfl ?_
        refine wa_iadd C 45 dX12_joins_44 rfl ?_
        refine wa_iload C 5 47 dX12_joins_45 rfl rfl ?_
        refine wa_iadd C 48 dX12_joins_47 rfl ?_
        refine wa_iload_n C 3 49 dX12_joins_48 rfl rfl ?_
        obtain ⟨g6, hf⟩ := grd_ex hf
        obtain ⟨y7, ey7, hf⟩ := bnd_ex hf
        refine wa_iast (ws' := [wM dT a y7]) C 50 0 10 dX12_joins_49 rfl rfl rfl (vi_in g6) (by rw [ey7]; rfl) ?_
        refine wa_aload_n C 0 51 dX12_joins_50 rfl rfl ?_
        refine wa_get C 54 0 0 34 dX12_joins_51 rfl iX12 q1483 rfl (Nat.le_of_ble_eq_true rfl) rfl rfl rfl ?_
        refine wa_iload_n C 1 55 dX12_joins_54 rfl rfl ?_
        refine wa_bipush (v := 14) C 57 dX12_joins_55 rfl rfl ?_
        refine wa_iadd C 58 dX12_joins_57 rfl ?_
        refine wa_iload C 5 60 dX12_joins_58 rfl rfl ?_
        refine wa_iadd C 61 dX12_joins_60 rfl ?_
        refine wa_dup2 C 62 dX12_joins_61 rfl rfl rfl ?_
        obtain ⟨g8, hf⟩ := grd_ex hf
        refine wa_iald C 63 0 10 dX12_joins_62 rfl rfl rfl (vi_in g8) ?_
        refine wa_iload C 4 65 dX12_joins_63 rfl rfl ?_
        refine wa_iadd C 66 dX12_joins_65 rfl ?_
        obtain ⟨g9, hf⟩ := grd_ex hf
        obtain ⟨y10, ey10, hf⟩ := bnd_ex hf
        refine wa_iast (ws' := [wM dT a y10]) C 67 0 10 dX12_joins_66 rfl rfl rfl (vi_in g9) (by rw [ey10]; rfl) ?_
        refine wa_aload_n C 0 68 dX12_joins_67 rfl rfl ?_
        refine wa_get C 71 0 0 34 dX12_joins_68 rfl iX12 q1483 rfl (Nat.le_of_ble_eq_true rfl) rfl rfl rfl ?_
        refine wa_iload_n C 1 72 dX12_joins_71 rfl rfl ?_
        refine wa_bipush (v := 26) C 74 dX12_joins_72 rfl rfl ?_
        refine wa_iadd C 75 dX12_joins_74 rfl ?_
        refine wa_iload C 5 77 dX12_joins_75 rfl rfl ?_
        refine wa_iadd C 78 dX12_joins_77 rfl ?_
        refine wa_iconst (v := 0) C 79 dX12_joins_78 rfl rfl ?_
        obtain ⟨g11, hf⟩ := grd_ex hf
        obtain ⟨y12, ey12, hf⟩ := bnd_ex hf
        refine wa_iast (ws' := [wM dT a y12]) C 80 0 10 dX12_joins_79 rfl rfl rfl (vi_in g11) (by rw [ey12]; rfl) ?_
        obtain ⟨x13, ex13, hf⟩ := bnd_ex hf
        refine wa_iinc (v := x13) (lv' := [(0, .ref (a 0)), (1, .int l1), (2, .int l2), (3, .int l3), (4, .int l4), (5, .int x13)]) C 5 [1, 2, 3, 4, 5, 0] 83 dX12_joins_80 rfl rfl (by rw [ex13]; rfl) (Nat.le_of_ble_eq_true rfl) rfl ?_
        refine wa_goto C 11 dX12_joins_83 rfl ?_
        exact ih x13 y12 hf
      · replace hf := ite_f hf c5
        refine wa_goto C 80 dX12_joins_35 rfl ?_
        obtain ⟨x14, ex14, hf⟩ := bnd_ex hf
        refine wa_iinc (v := x14) (lv' := [(0, .ref (a 0)), (1, .int l1), (2, .int l2), (3, .int l3), (4, .int l4), (5, .int x14)]) C 5 [1, 2, 3, 4, 5, 0] 83 dX12_joins_80 rfl rfl (by rw [ex14]; rfl) (Nat.le_of_ble_eq_true rfl) rfl ?_
        refine wa_goto C 11 dX12_joins_83 rfl ?_
        exact ih x14 z0 hf
set_option maxRecDepth 20000 in
theorem c_X12_joins {l : Launch} {D : va_G} {dT : Nat → ClassId} {a : Nat → Nat} {v : MS} {p0 : Int32} {p1 : Int32} {p2 : Int32} {res : MS} (hf : f_X12_joins v p0 p1 p2 = some res) : CTv l yX12_joins cX12_joins 6 none ({ frames := 2, cells := 0, slots := 0, locals := 49 } : Room) D dT [.ref (a 0), .int p0, .int p1, .int p2] ([wM dT a v]) ([wM dT a res]) := by
  refine CTv.of (by decide) (Nat.le_of_ble_eq_true rfl) rfl ?_
  intro p e s m args below meth c A C
  unfold f_X12_joins at hf
  refine wa_aload_n C 0 1 dX12_joins_0 rfl rfl ?_
  refine wa_iload_n C 1 2 dX12_joins_1 rfl rfl ?_
  refine wa_iload_n C 3 3 dX12_joins_2 rfl rfl ?_
  obtain ⟨q1, hq1, hf⟩ := bind_ex hf
  refine wa_callVAi (b1 := 0) (q1 := 0) (ci := 12) (As := [.int p0, .int p2]) C 6 dX12_joins_3 rfl kv_X12_297 (c_X12_sizeOf hq1) ⟨rfl, rfl⟩ ⟨Nat.le_of_ble_eq_true rfl, Nat.le_of_ble_eq_true rfl⟩ rfl rfl rfl rfl rfl ⟨Nat.zero_le _, Nat.zero_le _⟩ (Nat.le_of_ble_eq_true rfl) ?_
  refine wa_istore (lv' := [(0, .ref (a 0)), (1, .int p0), (2, .int p1), (3, .int p2), (4, .int q1)]) C [1, 2, 3, 4, 0] 8 dX12_joins_6 rfl (Nat.le_of_ble_eq_true rfl) rfl ?_
  refine wa_iconst (v := 0) C 9 dX12_joins_8 rfl rfl ?_
  refine wa_istore (lv' := [(0, .ref (a 0)), (1, .int p0), (2, .int p1), (3, .int p2), (4, .int q1), (5, .int (0 : Int32))]) C [1, 2, 3, 4, 5, 0] 11 dX12_joins_9 rfl (Nat.le_of_ble_eq_true rfl) rfl ?_
  exact w_X12_joins_L11 C FUEL (0 : Int32) v hf
theorem kv_X12_399 : KV RX12 399 yX12_joins cX12_joins 6 none 3 := KV.mk q1945 q1947 qs104 q13 q1948 ⟨by decide, by decide, by decide +kernel⟩
def f_X12_join (v : MS) (p0 : Int32) (p1 : Int32) : Option (Int32 × MS) := bnd (upd v.1 0 (0 : Int32), v.2) (fun y1 => (f_X12_isHouse y1 p0).bind (fun q2 => (if q2.1 = 0 then some ((0 : Int32), q2.2) else (f_X12_isHouse q2.2 p1).bind (fun q4 => (if q4.1 = 0 then some ((0 : Int32), q4.2) else (if p0 = p1 then (f_X12_refuses q4.2 (1 : Int32)).bind (fun q12 => some (q12.1, q12.2)) else (f_X12_sizeOf q4.2 (0 : Int32) p0).bind (fun q7 => (f_X12_sizeOf q4.2 (0 : Int32) p1).bind (fun q8 => bnd (q7 + q8) (fun x9 => (f_X12_keeps0 q4.2).bind (fun q10 => (f_X12_joins q10 (0 : Int32) p0 p1).bind (fun q11 => some (x9, q11))))))))))))
set_option maxRecDepth 20000 in
theorem c_X12_join {l : Launch} {D : va_G} {dT : Nat → ClassId} {a : Nat → Nat} {v : MS} {p0 : Int32} {p1 : Int32} {res : Int32 × MS} (hf : f_X12_join v p0 p1 = some res) : CTi l yX12_join cX12_join 4 (some .int) ({ frames := 3, cells := 0, slots := 0, locals := 74 } : Room) D dT [.ref (a 0), .int p0, .int p1] ([wM dT a v]) ([wM dT a res.2]) res.1 := by
  refine CTi.of (by decide) (Nat.le_of_ble_eq_true rfl) rfl ?_
  intro p e s m args below meth c A C
  unfold f_X12_join at hf
  refine wa_aload_n C 0 1 dX12_join_0 rfl rfl ?_
  refine wa_iconst (v := 0) C 2 dX12_join_1 rfl rfl ?_
  obtain ⟨y1, ey1, hf⟩ := bnd_ex hf
  refine wa_put (ws' := [wM dT a y1]) C 5 0 0 0 tyX12 dX12_join_2 rfl iX12 tyX12_ok nmX12 q1449 rfl (Nat.le_of_ble_eq_true rfl) rfl rfl rfl rfl rfl (Nat.le_of_ble_eq_true rfl) (by rw [ey1]; rfl) ?_
  refine wa_aload_n C 0 6 dX12_join_5 rfl rfl ?_
  refine wa_iload_n C 1 7 dX12_join_6 rfl rfl ?_
  obtain ⟨q2, hq2, hf⟩ := bind_ex hf
  refine wa_callVAi (b1 := 0) (q1 := 0) (ci := 12) (As := [.int p0]) C 10 dX12_join_7 rfl kv_X12_383 (c_X12_isHouse hq2) ⟨rfl, rfl⟩ ⟨Nat.le_of_ble_eq_true rfl, Nat.le_of_ble_eq_true rfl⟩ rfl rfl rfl rfl rfl ⟨Nat.zero_le _, Nat.zero_le _⟩ (Nat.le_of_ble_eq_true rfl) ?_
  refine wa_if_eq C 21 13 dX12_join_10 rfl rfl (fun c3 => ?_) (fun c3 => ?_)
  · replace hf := ite_t hf c3
    refine wa_iconst (v := 0) C 22 dX12_join_21 rfl rfl ?_
    cases hf
    exact wa_iret C dX12_join_22 rfl rfl
  · replace hf := ite_f hf c3
    refine wa_aload_n C 0 14 dX12_join_13 rfl rfl ?_
    refine wa_iload_n C 2 15 dX12_join_14 rfl rfl ?_
    obtain ⟨q4, hq4, hf⟩ := bind_ex hf
    refine wa_callVAi (b1 := 0) (q1 := 0) (ci := 12) (As := [.int p1]) C 18 dX12_join_15 rfl kv_X12_383 (c_X12_isHouse hq4) ⟨rfl, rfl⟩ ⟨Nat.le_of_ble_eq_true rfl, Nat.le_of_ble_eq_true rfl⟩ rfl rfl rfl rfl rfl ⟨Nat.zero_le _, Nat.zero_le _⟩ (Nat.le_of_ble_eq_true rfl) ?_
    refine wa_if_ne C 23 21 dX12_join_18 rfl rfl (fun c5 => ?_) (fun c5 => ?_)
    · replace hf := ite_f hf c5
      refine wa_iload_n C 1 24 dX12_join_23 rfl rfl ?_
      refine wa_iload_n C 2 25 dX12_join_24 rfl rfl ?_
      refine wa_icmp_ne C 34 28 dX12_join_25 rfl rfl (fun c6 => ?_) (fun c6 => ?_)
      · replace hf := ite_f hf c6
        refine wa_aload_n C 0 35 dX12_join_34 rfl rfl ?_
        refine wa_iconst (v := 0) C 36 dX12_join_35 rfl rfl ?_
        refine wa_iload_n C 1 37 dX12_join_36 rfl rfl ?_
        obtain ⟨q7, hq7, hf⟩ := bind_ex hf
        refine wa_callVAi (b1 := 0) (q1 := 0) (ci := 12) (As := [.int (0 : Int32), .int p0]) C 40 dX12_join_37 rfl kv_X12_297 (c_X12_sizeOf hq7) ⟨rfl, rfl⟩ ⟨Nat.le_of_ble_eq_true rfl, Nat.le_of_ble_eq_true rfl⟩ rfl rfl rfl rfl rfl ⟨Nat.zero_le _, Nat.zero_le _⟩ (Nat.le_of_ble_eq_true rfl) ?_
        refine wa_aload_n C 0 41 dX12_join_40 rfl rfl ?_
        refine wa_iconst (v := 0) C 42 dX12_join_41 rfl rfl ?_
        refine wa_iload_n C 2 43 dX12_join_42 rfl rfl ?_
        obtain ⟨q8, hq8, hf⟩ := bind_ex hf
        refine wa_callVAi (b1 := 0) (q1 := 0) (ci := 12) (As := [.int (0 : Int32), .int p1]) C 46 dX12_join_43 rfl kv_X12_297 (c_X12_sizeOf hq8) ⟨rfl, rfl⟩ ⟨Nat.le_of_ble_eq_true rfl, Nat.le_of_ble_eq_true rfl⟩ rfl rfl rfl rfl rfl ⟨Nat.zero_le _, Nat.zero_le _⟩ (Nat.le_of_ble_eq_true rfl) ?_
        refine wa_iadd C 47 dX12_join_46 rfl ?_
        obtain ⟨x9, ex9, hf⟩ := bnd_ex hf
        refine wa_topi ex9 ?_
        refine wa_istore_n (lv' := [(0, .ref (a 0)), (1, .int p0), (2, .int p1), (3, .int x9)]) C [1, 2, 3, 0] 48 dX12_join_47 rfl (Nat.le_of_ble_eq_true rfl) rfl ?_
        refine wa_aload_n C 0 49 dX12_join_48 rfl rfl ?_
        obtain ⟨q10, hq10, hf⟩ := bind_ex hf
        refine wa_callVAv (b1 := 0) (q1 := 0) (ci := 12) (As := []) C 52 dX12_join_49 rfl kv_X12_389 (c_X12_keeps0 hq10) ⟨rfl, rfl⟩ ⟨Nat.le_of_ble_eq_true rfl, Nat.le_of_ble_eq_true rfl⟩ rfl rfl rfl rfl rfl ⟨Nat.zero_le _, Nat.zero_le _⟩ (Nat.le_of_ble_eq_true rfl) ?_
        refine wa_aload_n C 0 53 dX12_join_52 rfl rfl ?_
        refine wa_iconst (v := 0) C 54 dX12_join_53 rfl rfl ?_
        refine wa_iload_n C 1 55 dX12_join_54 rfl rfl ?_
        refine wa_iload_n C 2 56 dX12_join_55 rfl rfl ?_
        obtain ⟨q11, hq11, hf⟩ := bind_ex hf
        refine wa_callVAv (b1 := 0) (q1 := 0) (ci := 12) (As := [.int (0 : Int32), .int p0, .int p1]) C 59 dX12_join_56 rfl kv_X12_399 (c_X12_joins hq11) ⟨rfl, rfl⟩ ⟨Nat.le_of_ble_eq_true rfl, Nat.le_of_ble_eq_true rfl⟩ rfl rfl rfl rfl rfl ⟨Nat.zero_le _, Nat.zero_le _⟩ (Nat.le_of_ble_eq_true rfl) ?_
        refine wa_iload_n C 3 60 dX12_join_59 rfl rfl ?_
        cases hf
        exact wa_iret C dX12_join_60 rfl rfl
      · replace hf := ite_t hf c6
        refine wa_aload_n C 0 29 dX12_join_28 rfl rfl ?_
        refine wa_iconst (v := 1) C 30 dX12_join_29 rfl rfl ?_
        obtain ⟨q12, hq12, hf⟩ := bind_ex hf
        refine wa_callVAi (b1 := 0) (q1 := 0) (ci := 12) (As := [.int (1 : Int32)]) C 33 dX12_join_30 rfl kv_X12_386 (c_X12_refuses hq12) ⟨rfl, rfl⟩ ⟨Nat.le_of_ble_eq_true rfl, Nat.le_of_ble_eq_true rfl⟩ rfl rfl rfl rfl rfl ⟨Nat.zero_le _, Nat.zero_le _⟩ (Nat.le_of_ble_eq_true rfl) ?_
        cases hf
        exact wa_iret C dX12_join_33 rfl rfl
    · replace hf := ite_t hf c5
      refine wa_iconst (v := 0) C 22 dX12_join_21 rfl rfl ?_
      cases hf
      exact wa_iret C dX12_join_22 rfl rfl
def f_X12_rank_J40 (z0 : MS) : Option (Int32 × MS) := (f_X12_refuses z0 (1 : Int32)).bind (fun q8 => some (q8.1, q8.2))
def f_X12_rank (v : MS) (p0 : Int32) (p1 : Int32) : Option (Int32 × MS) := bnd (upd v.1 0 (0 : Int32), v.2) (fun y1 => (f_X12_isPerson y1 p0).bind (fun q2 => (if q2.1 = 0 then some ((0 : Int32), q2.2) else grd (vi ((50 : Int32) + p0) 172) (bnd (q2.2.2.2 10 (((50 : Int32) + p0)).toNatClampNeg) (fun x5 => (f_X12_within p1 (0 : Int32) (9 : Int32)).bind (fun q6 => (if q6 = 0 then f_X12_rank_J40 q2.2 else (if x5 = p1 then f_X12_rank_J40 q2.2 else (f_X12_keeps0 q2.2).bind (fun q10 => grd (vi ((50 : Int32) + p0) 172) (bnd (q10.1, q10.2.1, uA q10.2.2 10 (((50 : Int32) + p0)).toNatClampNeg p1) (fun y12 => some (x5, y12))))))))))))
set_option maxRecDepth 20000 in
theorem w_X12_rank_J40 {p : Program} {l : Launch} {e : Env} {s : State} {m : MethodId} {args : Array Value} {below : List Frame} {meth : Method} {c : Code} {D : va_G} {A : Nat → Prop} {dT : Nat → ClassId} {a : Nat → Nat} {res : Int32 × MS} (C : Cx p s m args meth c cX12_rank 4 RX12 (some .int) D A dT) : ∀ (z0 : MS), f_X12_rank_J40 z0 = some res → WA p l e ({ frames := 2, cells := 0, slots := 0, locals := 43 } : Room) s m args below meth c (MQ below (QI D dT A ([wM dT a res.2]) res.1) args s 0 0 A) D A 0 0 4 40 ([wM dT a z0]) [(0, .ref (a 0))] [] := by
  intro z0 hf
  unfold f_X12_rank_J40 at hf
  refine wa_aload_n C 0 41 dX12_rank_40 rfl rfl ?_
  refine wa_iconst (v := 1) C 42 dX12_rank_41 rfl rfl ?_
  obtain ⟨q8, hq8, hf⟩ := bind_ex hf
  refine wa_callVAi (b1 := 0) (q1 := 0) (ci := 12) (As := [.int (1 : Int32)]) C 45 dX12_rank_42 rfl kv_X12_386 (c_X12_refuses hq8) ⟨rfl, rfl⟩ ⟨Nat.le_of_ble_eq_true rfl, Nat.le_of_ble_eq_true rfl⟩ rfl rfl rfl rfl rfl ⟨Nat.zero_le _, Nat.zero_le _⟩ (Nat.le_of_ble_eq_true rfl) ?_
  cases hf
  exact wa_iret C dX12_rank_45 rfl rfl
set_option maxRecDepth 20000 in
theorem c_X12_rank {l : Launch} {D : va_G} {dT : Nat → ClassId} {a : Nat → Nat} {v : MS} {p0 : Int32} {p1 : Int32} {res : Int32 × MS} (hf : f_X12_rank v p0 p1 = some res) : CTi l yX12_rank cX12_rank 4 (some .int) ({ frames := 2, cells := 0, slots := 0, locals := 43 } : Room) D dT [.ref (a 0), .int p0, .int p1] ([wM dT a v]) ([wM dT a res.2]) res.1 := by
  refine CTi.of (by decide) (Nat.le_of_ble_eq_true rfl) rfl ?_
  intro p e s m args below meth c A C
  unfold f_X12_rank at hf
  refine wa_aload_n C 0 1 dX12_rank_0 rfl rfl ?_
  refine wa_iconst (v := 0) C 2 dX12_rank_1 rfl rfl ?_
  obtain ⟨y1, ey1, hf⟩ := bnd_ex hf
  refine wa_put (ws' := [wM dT a y1]) C 5 0 0 0 tyX12 dX12_rank_2 rfl iX12 tyX12_ok nmX12 q1449 rfl (Nat.le_of_ble_eq_true rfl) rfl rfl rfl rfl rfl (Nat.le_of_ble_eq_true rfl) (by rw [ey1]; rfl) ?_
  refine wa_aload_n C 0 6 dX12_rank_5 rfl rfl ?_
  refine wa_iload_n C 1 7 dX12_rank_6 rfl rfl ?_
  obtain ⟨q2, hq2, hf⟩ := bind_ex hf
  refine wa_callVAi (b1 := 0) (q1 := 0) (ci := 12) (As := [.int p0]) C 10 dX12_rank_7 rfl kv_X12_368 (c_X12_isPerson hq2) ⟨rfl, rfl⟩ ⟨Nat.le_of_ble_eq_true rfl, Nat.le_of_ble_eq_true rfl⟩ rfl rfl rfl rfl rfl ⟨Nat.zero_le _, Nat.zero_le _⟩ (Nat.le_of_ble_eq_true rfl) ?_
  refine wa_if_ne C 15 13 dX12_rank_10 rfl rfl (fun c3 => ?_) (fun c3 => ?_)
  · replace hf := ite_f hf c3
    refine wa_aload_n C 0 16 dX12_rank_15 rfl rfl ?_
    refine wa_get C 19 0 0 34 dX12_rank_16 rfl iX12 q1483 rfl (Nat.le_of_ble_eq_true rfl) rfl rfl rfl ?_
    refine wa_bipush (v := 50) C 21 dX12_rank_19 rfl rfl ?_
    refine wa_iload_n C 1 22 dX12_rank_21 rfl rfl ?_
    refine wa_iadd C 23 dX12_rank_22 rfl ?_
    obtain ⟨g4, hf⟩ := grd_ex hf
    refine wa_iald C 24 0 10 dX12_rank_23 rfl rfl rfl (vi_in g4) ?_
    obtain ⟨x5, ex5, hf⟩ := bnd_ex hf
    refine wa_topi ex5 ?_
    refine wa_istore_n (lv' := [(0, .ref (a 0)), (1, .int p0), (2, .int p1), (3, .int x5)]) C [1, 2, 3, 0] 25 dX12_rank_24 rfl (Nat.le_of_ble_eq_true rfl) rfl ?_
    refine wa_iload_n C 2 26 dX12_rank_25 rfl rfl ?_
    refine wa_iconst (v := 0) C 27 dX12_rank_26 rfl rfl ?_
    refine wa_bipush (v := 9) C 29 dX12_rank_27 rfl rfl ?_
    obtain ⟨q6, hq6, hf⟩ := bind_ex hf
    refine wa_callS0i (As := [.int p1, .int (0 : Int32), .int (9 : Int32)]) C 32 dX12_rank_29 rfl ks_X12_346 (c_X12_within hq6) ⟨rfl, rfl⟩ ⟨Nat.le_of_ble_eq_true rfl, Nat.le_of_ble_eq_true rfl⟩ rfl rfl ⟨Nat.zero_le _, Nat.zero_le _⟩ (Nat.le_of_ble_eq_true rfl) ?_
    refine wa_if_eq C 40 35 dX12_rank_32 rfl rfl (fun c7 => ?_) (fun c7 => ?_)
    · replace hf := ite_t hf c7
      refine wa_lv (lv' := [(0, .ref (a 0))]) [0] rfl ?_
      exact w_X12_rank_J40 C q2.2 hf
    · replace hf := ite_f hf c7
      refine wa_iload_n C 3 36 dX12_rank_35 rfl rfl ?_
      refine wa_iload_n C 2 37 dX12_rank_36 rfl rfl ?_
      refine wa_icmp_ne C 46 40 dX12_rank_37 rfl rfl (fun c9 => ?_) (fun c9 => ?_)
      · replace hf := ite_f hf c9
        refine wa_aload_n C 0 47 dX12_rank_46 rfl rfl ?_
        obtain ⟨q10, hq10, hf⟩ := bind_ex hf
        refine wa_callVAv (b1 := 0) (q1 := 0) (ci := 12) (As := []) C 50 dX12_rank_47 rfl kv_X12_389 (c_X12_keeps0 hq10) ⟨rfl, rfl⟩ ⟨Nat.le_of_ble_eq_true rfl, Nat.le_of_ble_eq_true rfl⟩ rfl rfl rfl rfl rfl ⟨Nat.zero_le _, Nat.zero_le _⟩ (Nat.le_of_ble_eq_true rfl) ?_
        refine wa_aload_n C 0 51 dX12_rank_50 rfl rfl ?_
        refine wa_get C 54 0 0 34 dX12_rank_51 rfl iX12 q1483 rfl (Nat.le_of_ble_eq_true rfl) rfl rfl rfl ?_
        refine wa_bipush (v := 50) C 56 dX12_rank_54 rfl rfl ?_
        refine wa_iload_n C 1 57 dX12_rank_56 rfl rfl ?_
        refine wa_iadd C 58 dX12_rank_57 rfl ?_
        refine wa_iload_n C 2 59 dX12_rank_58 rfl rfl ?_
        obtain ⟨g11, hf⟩ := grd_ex hf
        obtain ⟨y12, ey12, hf⟩ := bnd_ex hf
        refine wa_iast (ws' := [wM dT a y12]) C 60 0 10 dX12_rank_59 rfl rfl rfl (vi_in g11) (by rw [ey12]; rfl) ?_
        refine wa_iload_n C 3 61 dX12_rank_60 rfl rfl ?_
        cases hf
        exact wa_iret C dX12_rank_61 rfl rfl
      · replace hf := ite_t hf c9
        refine wa_lv (lv' := [(0, .ref (a 0))]) [0] rfl ?_
        exact w_X12_rank_J40 C q2.2 hf
  · replace hf := ite_t hf c3
    refine wa_iconst (v := 0) C 14 dX12_rank_13 rfl rfl ?_
    cases hf
    exact wa_iret C dX12_rank_14 rfl rfl
theorem kv_X12_402 : KV RX12 402 yX12_isSoon cX12_isSoon 4 (some .boolean) 3 := KV.mk q1957 q1959 qs105 q13 q1960 ⟨by decide, by decide, by decide +kernel⟩
theorem kv_X12_405 : KV RX12 405 yX12_goesTo cX12_goesTo 2 none 1 := KV.mk q1961 q1963 qs106 q13 q1964 ⟨by decide, by decide, by decide +kernel⟩
def f_X12_then (v : MS) (p0 : Int32) (p1 : Int32) (p2 : Int32) : Option (Int32 × MS) := bnd (upd v.1 0 (0 : Int32), v.2) (fun y1 => (f_X12_isPerson y1 p0).bind (fun q2 => (if q2.1 = 0 then some ((0 : Int32), q2.2) else (f_X12_isWhat q2.2 p2 (3 : Int32)).bind (fun q4 => (if q4.1 = 0 then some ((0 : Int32), q4.2) else (f_X12_isSoon q4.2 p1 (0 : Int32) (2 : Int32)).bind (fun q6 => (if q6.1 = 0 then some ((0 : Int32), q6.2) else (f_X12_goesTo q6.2 p1).bind (fun q8 => grd (vi ((88 : Int32) + p0) 172) (bnd (q8.2.2 10 (((88 : Int32) + p0)).toNatClampNeg) (fun x10 => (if p2 = 0 then some (x10, q8) else (if p2 = (1 : Int32) then grd (vi ((100 : Int32) + p0) 172) (some ((q8.2.2 10 (((100 : Int32) + p0)).toNatClampNeg), q8)) else (if p2 = (2 : Int32) then grd (vi ((124 : Int32) + p0) 172) (some ((q8.2.2 10 (((124 : Int32) + p0)).toNatClampNeg), q8)) else (f_X12_sizeOf q8 (86 : Int32) x10).bind (fun q14 => some (q14, q8)))))))))))))))
set_option maxRecDepth 20000 in
theorem c_X12_then {l : Launch} {D : va_G} {dT : Nat → ClassId} {a : Nat → Nat} {v : MS} {p0 : Int32} {p1 : Int32} {p2 : Int32} {res : Int32 × MS} (hf : f_X12_then v p0 p1 p2 = some res) : CTi l yX12_then cX12_then 5 (some .int) ({ frames := 7, cells := 0, slots := 0, locals := 163 } : Room) D dT [.ref (a 0), .int p0, .int p1, .int p2] ([wM dT a v]) ([wM dT a res.2]) res.1 := by
  refine CTi.of (by decide) (Nat.le_of_ble_eq_true rfl) rfl ?_
  intro p e s m args below meth c A C
  unfold f_X12_then at hf
  refine wa_aload_n C 0 1 dX12_then_0 rfl rfl ?_
  refine wa_iconst (v := 0) C 2 dX12_then_1 rfl rfl ?_
  obtain ⟨y1, ey1, hf⟩ := bnd_ex hf
  refine wa_put (ws' := [wM dT a y1]) C 5 0 0 0 tyX12 dX12_then_2 rfl iX12 tyX12_ok nmX12 q1449 rfl (Nat.le_of_ble_eq_true rfl) rfl rfl rfl rfl rfl (Nat.le_of_ble_eq_true rfl) (by rw [ey1]; rfl) ?_
  refine wa_aload_n C 0 6 dX12_then_5 rfl rfl ?_
  refine wa_iload_n C 1 7 dX12_then_6 rfl rfl ?_
  obtain ⟨q2, hq2, hf⟩ := bind_ex hf
  refine wa_callVAi (b1 := 0) (q1 := 0) (ci := 12) (As := [.int p0]) C 10 dX12_then_7 rfl kv_X12_368 (c_X12_isPerson hq2) ⟨rfl, rfl⟩ ⟨Nat.le_of_ble_eq_true rfl, Nat.le_of_ble_eq_true rfl⟩ rfl rfl rfl rfl rfl ⟨Nat.zero_le _, Nat.zero_le _⟩ (Nat.le_of_ble_eq_true rfl) ?_
  refine wa_if_eq C 32 13 dX12_then_10 rfl rfl (fun c3 => ?_) (fun c3 => ?_)
  · replace hf := ite_t hf c3
    refine wa_iconst (v := 0) C 33 dX12_then_32 rfl rfl ?_
    cases hf
    exact wa_iret C dX12_then_33 rfl rfl
  · replace hf := ite_f hf c3
    refine wa_aload_n C 0 14 dX12_then_13 rfl rfl ?_
    refine wa_iload_n C 3 15 dX12_then_14 rfl rfl ?_
    refine wa_iconst (v := 3) C 16 dX12_then_15 rfl rfl ?_
    obtain ⟨q4, hq4, hf⟩ := bind_ex hf
    refine wa_callVAi (b1 := 0) (q1 := 0) (ci := 12) (As := [.int p2, .int (3 : Int32)]) C 19 dX12_then_16 rfl kv_X12_371 (c_X12_isWhat hq4) ⟨rfl, rfl⟩ ⟨Nat.le_of_ble_eq_true rfl, Nat.le_of_ble_eq_true rfl⟩ rfl rfl rfl rfl rfl ⟨Nat.zero_le _, Nat.zero_le _⟩ (Nat.le_of_ble_eq_true rfl) ?_
    refine wa_if_eq C 32 22 dX12_then_19 rfl rfl (fun c5 => ?_) (fun c5 => ?_)
    · replace hf := ite_t hf c5
      refine wa_iconst (v := 0) C 33 dX12_then_32 rfl rfl ?_
      cases hf
      exact wa_iret C dX12_then_33 rfl rfl
    · replace hf := ite_f hf c5
      refine wa_aload_n C 0 23 dX12_then_22 rfl rfl ?_
      refine wa_iload_n C 2 24 dX12_then_23 rfl rfl ?_
      refine wa_iconst (v := 0) C 25 dX12_then_24 rfl rfl ?_
      refine wa_iconst (v := 2) C 26 dX12_then_25 rfl rfl ?_
      obtain ⟨q6, hq6, hf⟩ := bind_ex hf
      refine wa_callVAi (b1 := 0) (q1 := 0) (ci := 12) (As := [.int p1, .int (0 : Int32), .int (2 : Int32)]) C 29 dX12_then_26 rfl kv_X12_402 (c_X12_isSoon hq6) ⟨rfl, rfl⟩ ⟨Nat.le_of_ble_eq_true rfl, Nat.le_of_ble_eq_true rfl⟩ rfl rfl rfl rfl rfl ⟨Nat.zero_le _, Nat.zero_le _⟩ (Nat.le_of_ble_eq_true rfl) ?_
      refine wa_if_ne C 34 32 dX12_then_29 rfl rfl (fun c7 => ?_) (fun c7 => ?_)
      · replace hf := ite_f hf c7
        refine wa_aload_n C 0 35 dX12_then_34 rfl rfl ?_
        refine wa_iload_n C 2 36 dX12_then_35 rfl rfl ?_
        obtain ⟨q8, hq8, hf⟩ := bind_ex hf
        refine wa_callVAv (b1 := 0) (q1 := 0) (ci := 12) (As := [.int p1]) C 39 dX12_then_36 rfl kv_X12_405 (c_X12_goesTo hq8) ⟨rfl, rfl⟩ ⟨Nat.le_of_ble_eq_true rfl, Nat.le_of_ble_eq_true rfl⟩ rfl rfl rfl rfl rfl ⟨Nat.zero_le _, Nat.zero_le _⟩ (Nat.le_of_ble_eq_true rfl) ?_
        refine wa_aload_n C 0 40 dX12_then_39 rfl rfl ?_
        refine wa_get C 43 0 0 34 dX12_then_40 rfl iX12 q1483 rfl (Nat.le_of_ble_eq_true rfl) rfl rfl rfl ?_
        refine wa_bipush (v := 88) C 45 dX12_then_43 rfl rfl ?_
        refine wa_iload_n C 1 46 dX12_then_45 rfl rfl ?_
        refine wa_iadd C 47 dX12_then_46 rfl ?_
        obtain ⟨g9, hf⟩ := grd_ex hf
        refine wa_iald C 48 0 10 dX12_then_47 rfl rfl rfl (vi_in g9) ?_
        obtain ⟨x10, ex10, hf⟩ := bnd_ex hf
        refine wa_topi ex10 ?_
        refine wa_istore (lv' := [(0, .ref (a 0)), (1, .int p0), (2, .int p1), (3, .int p2), (4, .int x10)]) C [1, 2, 3, 4, 0] 50 dX12_then_48 rfl (Nat.le_of_ble_eq_true rfl) rfl ?_
        refine wa_iload_n C 3 51 dX12_then_50 rfl rfl ?_
        refine wa_if_ne C 59 54 dX12_then_51 rfl rfl (fun c11 => ?_) (fun c11 => ?_)
        · replace hf := ite_f hf c11
          refine wa_iload_n C 3 60 dX12_then_59 rfl rfl ?_
          refine wa_iconst (v := 1) C 61 dX12_then_60 rfl rfl ?_
          refine wa_icmp_ne C 76 64 dX12_then_61 rfl rfl (fun c12 => ?_) (fun c12 => ?_)
          · replace hf := ite_f hf c12
            refine wa_iload_n C 3 77 dX12_then_76 rfl rfl ?_
            refine wa_iconst (v := 2) C 78 dX12_then_77 rfl rfl ?_
            refine wa_icmp_ne C 93 81 dX12_then_78 rfl rfl (fun c13 => ?_) (fun c13 => ?_)
            · replace hf := ite_f hf c13
              refine wa_aload_n C 0 94 dX12_then_93 rfl rfl ?_
              refine wa_bipush (v := 86) C 96 dX12_then_94 rfl rfl ?_
              refine wa_iload C 4 98 dX12_then_96 rfl rfl ?_
              obtain ⟨q14, hq14, hf⟩ := bind_ex hf
              refine wa_callVAi (b1 := 0) (q1 := 0) (ci := 12) (As := [.int (86 : Int32), .int x10]) C 101 dX12_then_98 rfl kv_X12_297 (c_X12_sizeOf hq14) ⟨rfl, rfl⟩ ⟨Nat.le_of_ble_eq_true rfl, Nat.le_of_ble_eq_true rfl⟩ rfl rfl rfl rfl rfl ⟨Nat.zero_le _, Nat.zero_le _⟩ (Nat.le_of_ble_eq_true rfl) ?_
              cases hf
              exact wa_iret C dX12_then_101 rfl rfl
            · replace hf := ite_t hf c13
              refine wa_aload_n C 0 82 dX12_then_81 rfl rfl ?_
              refine wa_get C 85 0 0 34 dX12_then_82 rfl iX12 q1483 rfl (Nat.le_of_ble_eq_true rfl) rfl rfl rfl ?_
              refine wa_bipush (v := 124) C 87 dX12_then_85 rfl rfl ?_
              refine wa_iload_n C 1 88 dX12_then_87 rfl rfl ?_
              refine wa_iadd C 89 dX12_then_88 rfl ?_
              obtain ⟨g15, hf⟩ := grd_ex hf
              refine wa_iald C 90 0 10 dX12_then_89 rfl rfl rfl (vi_in g15) ?_
              refine wa_goto C 101 dX12_then_90 rfl ?_
              cases hf
              exact wa_iret C dX12_then_101 rfl rfl
          · replace hf := ite_t hf c12
            refine wa_aload_n C 0 65 dX12_then_64 rfl rfl ?_
            refine wa_get C 68 0 0 34 dX12_then_65 rfl iX12 q1483 rfl (Nat.le_of_ble_eq_true rfl) rfl rfl rfl ?_
            refine wa_bipush (v := 100) C 70 dX12_then_68 rfl rfl ?_
            refine wa_iload_n C 1 71 dX12_then_70 rfl rfl ?_
            refine wa_iadd C 72 dX12_then_71 rfl ?_
            obtain ⟨g16, hf⟩ := grd_ex hf
            refine wa_iald C 73 0 10 dX12_then_72 rfl rfl rfl (vi_in g16) ?_
            refine wa_goto C 101 dX12_then_73 rfl ?_
            cases hf
            exact wa_iret C dX12_then_101 rfl rfl
        · replace hf := ite_t hf c11
          refine wa_iload C 4 56 dX12_then_54 rfl rfl ?_
          refine wa_goto C 101 dX12_then_56 rfl ?_
          cases hf
          exact wa_iret C dX12_then_101 rfl rfl
      · replace hf := ite_t hf c7
        refine wa_iconst (v := 0) C 33 dX12_then_32 rfl rfl ?_
        cases hf
        exact wa_iret C dX12_then_33 rfl rfl
def f_X12_size_J31 (l1 : Int32) (l2 : Int32) (t0 : Int32) (z0 : MS) : Option (Int32 × MS) := (f_X12_right z0 t0 (1 : Int32)).bind (fun q4 => (if q4.1 = 0 then some ((0 : Int32), q4.2) else (f_X12_goesTo q4.2 l2).bind (fun q6 => (f_X12_laysSizes q6 (86 : Int32)).bind (fun q7 => grd (vi l1 12) ((if (q7.2.2 15 (l1).toNatClampNeg) = 0 then some ((-1 : Int32), q7) else grd (vi l1 12) (some ((q7.2.2 15 (l1).toNatClampNeg), q7))))))))
def f_X12_size_J30 (l1 : Int32) (l2 : Int32) (z0 : MS) : Option (Int32 × MS) := f_X12_size_J31 l1 l2 (0 : Int32) z0
def f_X12_size (v : MS) (p0 : Int32) (p1 : Int32) : Option (Int32 × MS) := bnd (upd v.1 0 (0 : Int32), v.2) (fun y1 => (f_X12_within p0 (0 : Int32) (11 : Int32)).bind (fun q2 => (if q2 = 0 then f_X12_size_J30 p0 p1 y1 else (f_X12_within p1 (0 : Int32) (100 : Int32)).bind (fun q11 => (if q11 = 0 then f_X12_size_J30 p0 p1 y1 else f_X12_size_J31 p0 p1 (1 : Int32) y1)))))
set_option maxRecDepth 20000 in
theorem w_X12_size_J31 {p : Program} {l : Launch} {e : Env} {s : State} {m : MethodId} {args : Array Value} {below : List Frame} {meth : Method} {c : Code} {D : va_G} {A : Nat → Prop} {dT : Nat → ClassId} {a : Nat → Nat} {res : Int32 × MS} (C : Cx p s m args meth c cX12_size 3 RX12 (some .int) D A dT) : ∀ (l1 : Int32) (l2 : Int32) (t0 : Int32) (z0 : MS), f_X12_size_J31 l1 l2 t0 z0 = some res → WA p l e ({ frames := 7, cells := 0, slots := 0, locals := 163 } : Room) s m args below meth c (MQ below (QI D dT A ([wM dT a res.2]) res.1) args s 0 0 A) D A 0 0 3 31 ([wM dT a z0]) [(0, .ref (a 0)), (1, .int l1), (2, .int l2)] [.int t0, .ref (a 0)] := by
  intro l1 l2 t0 z0 hf
  unfold f_X12_size_J31 at hf
  refine wa_iconst (v := 1) C 32 dX12_size_31 rfl rfl ?_
  obtain ⟨q4, hq4, hf⟩ := bind_ex hf
  refine wa_callVAi (b1 := 0) (q1 := 0) (ci := 12) (As := [.int t0, .int (1 : Int32)]) C 35 dX12_size_32 rfl kv_X12_257 (c_X12_right hq4) ⟨rfl, rfl⟩ ⟨Nat.le_of_ble_eq_true rfl, Nat.le_of_ble_eq_true rfl⟩ rfl rfl rfl rfl rfl ⟨Nat.zero_le _, Nat.zero_le _⟩ (Nat.le_of_ble_eq_true rfl) ?_
  refine wa_if_ne C 40 38 dX12_size_35 rfl rfl (fun c5 => ?_) (fun c5 => ?_)
  · replace hf := ite_f hf c5
    refine wa_aload_n C 0 41 dX12_size_40 rfl rfl ?_
    refine wa_iload_n C 2 42 dX12_size_41 rfl rfl ?_
    obtain ⟨q6, hq6, hf⟩ := bind_ex hf
    refine wa_callVAv (b1 := 0) (q1 := 0) (ci := 12) (As := [.int l2]) C 45 dX12_size_42 rfl kv_X12_405 (c_X12_goesTo hq6) ⟨rfl, rfl⟩ ⟨Nat.le_of_ble_eq_true rfl, Nat.le_of_ble_eq_true rfl⟩ rfl rfl rfl rfl rfl ⟨Nat.zero_le _, Nat.zero_le _⟩ (Nat.le_of_ble_eq_true rfl) ?_
    refine wa_aload_n C 0 46 dX12_size_45 rfl rfl ?_
    refine wa_bipush (v := 86) C 48 dX12_size_46 rfl rfl ?_
    obtain ⟨q7, hq7, hf⟩ := bind_ex hf
    refine wa_callVAv (b1 := 0) (q1 := 0) (ci := 12) (As := [.int (86 : Int32)]) C 51 dX12_size_48 rfl kv_X12_343 (c_X12_laysSizes hq7) ⟨rfl, rfl⟩ ⟨Nat.le_of_ble_eq_true rfl, Nat.le_of_ble_eq_true rfl⟩ rfl rfl rfl rfl rfl ⟨Nat.zero_le _, Nat.zero_le _⟩ (Nat.le_of_ble_eq_true rfl) ?_
    refine wa_aload_n C 0 52 dX12_size_51 rfl rfl ?_
    refine wa_get C 55 0 0 43 dX12_size_52 rfl iX12 q1492 rfl (Nat.le_of_ble_eq_true rfl) rfl rfl rfl ?_
    refine wa_iload_n C 1 56 dX12_size_55 rfl rfl ?_
    obtain ⟨g8, hf⟩ := grd_ex hf
    refine wa_iald C 57 0 15 dX12_size_56 rfl rfl rfl (vi_in g8) ?_
    refine wa_if_ne C 64 60 dX12_size_57 rfl rfl (fun c9 => ?_) (fun c9 => ?_)
    · replace hf := ite_f hf c9
      refine wa_aload_n C 0 65 dX12_size_64 rfl rfl ?_
      refine wa_get C 68 0 0 43 dX12_size_65 rfl iX12 q1492 rfl (Nat.le_of_ble_eq_true rfl) rfl rfl rfl ?_
      refine wa_iload_n C 1 69 dX12_size_68 rfl rfl ?_
      obtain ⟨g10, hf⟩ := grd_ex hf
      refine wa_iald C 70 0 15 dX12_size_69 rfl rfl rfl (vi_in g10) ?_
      cases hf
      exact wa_iret C dX12_size_70 rfl rfl
    · replace hf := ite_t hf c9
      refine wa_iconst (v := (-1)) C 61 dX12_size_60 rfl rfl ?_
      refine wa_goto C 70 dX12_size_61 rfl ?_
      cases hf
      exact wa_iret C dX12_size_70 rfl rfl
  · replace hf := ite_t hf c5
    refine wa_iconst (v := 0) C 39 dX12_size_38 rfl rfl ?_
    cases hf
    exact wa_iret C dX12_size_39 rfl rfl
set_option maxRecDepth 20000 in
theorem w_X12_size_J30 {p : Program} {l : Launch} {e : Env} {s : State} {m : MethodId} {args : Array Value} {below : List Frame} {meth : Method} {c : Code} {D : va_G} {A : Nat → Prop} {dT : Nat → ClassId} {a : Nat → Nat} {res : Int32 × MS} (C : Cx p s m args meth c cX12_size 3 RX12 (some .int) D A dT) : ∀ (l1 : Int32) (l2 : Int32) (z0 : MS), f_X12_size_J30 l1 l2 z0 = some res → WA p l e ({ frames := 7, cells := 0, slots := 0, locals := 163 } : Room) s m args below meth c (MQ below (QI D dT A ([wM dT a res.2]) res.1) args s 0 0 A) D A 0 0 3 30 ([wM dT a z0]) [(0, .ref (a 0)), (1, .int l1), (2, .int l2)] [.ref (a 0)] := by
  intro l1 l2 z0 hf
  unfold f_X12_size_J30 at hf
  refine wa_iconst (v := 0) C 31 dX12_size_30 rfl rfl ?_
  exact w_X12_size_J31 C l1 l2 (0 : Int32) z0 hf
set_option maxRecDepth 20000 in
theorem c_X12_size {l : Launch} {D : va_G} {dT : Nat → ClassId} {a : Nat → Nat} {v : MS} {p0 : Int32} {p1 : Int32} {res : Int32 × MS} (hf : f_X12_size v p0 p1 = some res) : CTi l yX12_size cX12_size 3 (some .int) ({ frames := 7, cells := 0, slots := 0, locals := 163 } : Room) D dT [.ref (a 0), .int p0, .int p1] ([wM dT a v]) ([wM dT a res.2]) res.1 := by
  refine CTi.of (by decide) (Nat.le_of_ble_eq_true rfl) rfl ?_
  intro p e s m args below meth c A C
  unfold f_X12_size at hf
  refine wa_aload_n C 0 1 dX12_size_0 rfl rfl ?_
  refine wa_iconst (v := 0) C 2 dX12_size_1 rfl rfl ?_
  obtain ⟨y1, ey1, hf⟩ := bnd_ex hf
  refine wa_put (ws' := [wM dT a y1]) C 5 0 0 0 tyX12 dX12_size_2 rfl iX12 tyX12_ok nmX12 q1449 rfl (Nat.le_of_ble_eq_true rfl) rfl rfl rfl rfl rfl (Nat.le_of_ble_eq_true rfl) (by rw [ey1]; rfl) ?_
  refine wa_aload_n C 0 6 dX12_size_5 rfl rfl ?_
  refine wa_iload_n C 1 7 dX12_size_6 rfl rfl ?_
  refine wa_iconst (v := 0) C 8 dX12_size_7 rfl rfl ?_
  refine wa_bipush (v := 11) C 10 dX12_size_8 rfl rfl ?_
  obtain ⟨q2, hq2, hf⟩ := bind_ex hf
  refine wa_callS0i (As := [.int p0, .int (0 : Int32), .int (11 : Int32)]) C 13 dX12_size_10 rfl ks_X12_346 (c_X12_within hq2) ⟨rfl, rfl⟩ ⟨Nat.le_of_ble_eq_true rfl, Nat.le_of_ble_eq_true rfl⟩ rfl rfl ⟨Nat.zero_le _, Nat.zero_le _⟩ (Nat.le_of_ble_eq_true rfl) ?_
  refine wa_if_eq C 30 16 dX12_size_13 rfl rfl (fun c3 => ?_) (fun c3 => ?_)
  · replace hf := ite_t hf c3
    exact w_X12_size_J30 C p0 p1 y1 hf
  · replace hf := ite_f hf c3
    refine wa_iload_n C 2 17 dX12_size_16 rfl rfl ?_
    refine wa_iconst (v := 0) C 18 dX12_size_17 rfl rfl ?_
    refine wa_bipush (v := 100) C 20 dX12_size_18 rfl rfl ?_
    obtain ⟨q11, hq11, hf⟩ := bind_ex hf
    refine wa_callS0i (As := [.int p1, .int (0 : Int32), .int (100 : Int32)]) C 23 dX12_size_20 rfl ks_X12_346 (c_X12_within hq11) ⟨rfl, rfl⟩ ⟨Nat.le_of_ble_eq_true rfl, Nat.le_of_ble_eq_true rfl⟩ rfl rfl ⟨Nat.zero_le _, Nat.zero_le _⟩ (Nat.le_of_ble_eq_true rfl) ?_
    refine wa_if_eq C 30 26 dX12_size_23 rfl rfl (fun c12 => ?_) (fun c12 => ?_)
    · replace hf := ite_t hf c12
      exact w_X12_size_J30 C p0 p1 y1 hf
    · replace hf := ite_f hf c12
      refine wa_iconst (v := 1) C 27 dX12_size_26 rfl rfl ?_
      refine wa_goto C 31 dX12_size_27 rfl ?_
      exact w_X12_size_J31 C p0 p1 (1 : Int32) y1 hf
