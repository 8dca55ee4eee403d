theorem kv_X12_334 : KV RX12 334 yX12_eveningGoes cX12_eveningGoes 5 none 1 := KV.mk q1909 q1911 qs98 q13 q1912 ⟨by decide, by decide, by decide +kernel⟩
def f_X12_eveningsGo_L2 (l1 : Int32) : Nat → Int32 → MS → Option (MS)
  | 0, _, _ => none
  | n + 1, l2, z0 => (if l1 ≤ l2 then some (z0) else (f_X12_eveningGoes z0 (86 : Int32)).bind (fun q2 => bnd (l2 + 1) (fun x3 => f_X12_eveningsGo_L2 l1 n x3 q2)))
def f_X12_eveningsGo (v : MS) (p0 : Int32) : Option (MS) := f_X12_eveningsGo_L2 p0 FUEL (0 : Int32) v
set_option maxRecDepth 20000 in
theorem w_X12_eveningsGo_L2 {p : Program} {l : Launch} {e : Env} {s : State} {m : MethodId} {args : Array Value} {below : List Frame} {meth : Method} {c : Code} {D : va_G} {A : Nat → Prop} {dT : Nat → ClassId} {a : Nat → Nat} {res : MS} {l1 : Int32} (C : Cx p s m args meth c cX12_eveningsGo 3 RX12 none D A dT) : ∀ (n : Nat) (l2 : Int32) (z0 : MS), f_X12_eveningsGo_L2 l1 n l2 z0 = some res → WA p l e ({ frames := 5, cells := 0, slots := 0, locals := 120 } : Room) s m args below meth c (MQ below (QV D dT A ([wM dT a res])) args s 0 0 A) D A 0 0 3 2 ([wM dT a z0]) [(0, .ref (a 0)), (1, .int l1), (2, .int l2)] [] := by
  intro n
  induction n with
  | zero => intro l2 z0 hf; cases hf
  | succ n ih =>
    intro l2 z0 hf
    unfold f_X12_eveningsGo_L2 at hf
    refine wa_iload_n C 2 3 dX12_eveningsGo_2 rfl rfl ?_
    refine wa_iload_n C 1 4 dX12_eveningsGo_3 rfl rfl ?_
    refine wa_icmp_ge C 19 7 dX12_eveningsGo_4 rfl rfl (fun c1 => ?_) (fun c1 => ?_)
    · replace hf := ite_t hf c1
      cases hf
      exact wa_vret C dX12_eveningsGo_19 rfl
    · replace hf := ite_f hf c1
      refine wa_aload_n C 0 8 dX12_eveningsGo_7 rfl rfl ?_
      refine wa_bipush (v := 86) C 10 dX12_eveningsGo_8 rfl rfl ?_
      obtain ⟨q2, hq2, hf⟩ := bind_ex hf
      refine wa_callVAv (b1 := 0) (q1 := 0) (ci := 12) (As := [.int (86 : Int32)]) C 13 dX12_eveningsGo_10 rfl kv_X12_334 (c_X12_eveningGoes hq2) ⟨rfl, rfl⟩ ⟨Nat.le_of_ble_eq_true rfl, Nat.le_of_ble_eq_true rfl⟩ rfl rfl rfl rfl rfl ⟨Nat.zero_le _, Nat.zero_le _⟩ (Nat.le_of_ble_eq_true rfl) ?_
      obtain ⟨x3, ex3, hf⟩ := bnd_ex hf
      refine wa_iinc (v := x3) (lv' := [(0, .ref (a 0)), (1, .int l1), (2, .int x3)]) C 2 [1, 2, 0] 16 dX12_eveningsGo_13 rfl rfl (by rw [ex3]; rfl) (Nat.le_of_ble_eq_true rfl) rfl ?_
      refine wa_goto C 2 dX12_eveningsGo_16 rfl ?_
      exact ih x3 q2 hf
set_option maxRecDepth 20000 in
theorem c_X12_eveningsGo {l : Launch} {D : va_G} {dT : Nat → ClassId} {a : Nat → Nat} {v : MS} {p0 : Int32} {res : MS} (hf : f_X12_eveningsGo v p0 = some res) : CTv l yX12_eveningsGo cX12_eveningsGo 3 none ({ frames := 5, cells := 0, slots := 0, locals := 120 } : Room) D dT [.ref (a 0), .int p0] ([wM dT a v]) ([wM dT a res]) := by
  refine CTv.of (by decide) (Nat.le_of_ble_eq_true rfl) rfl ?_
  intro p e s m args below meth c A C
  unfold f_X12_eveningsGo at hf
  refine wa_iconst (v := 0) C 1 dX12_eveningsGo_0 rfl rfl ?_
  refine wa_istore_n (lv' := [(0, .ref (a 0)), (1, .int p0), (2, .int (0 : Int32))]) C [1, 2, 0] 2 dX12_eveningsGo_1 rfl (Nat.le_of_ble_eq_true rfl) rfl ?_
  exact w_X12_eveningsGo_L2 C FUEL (0 : Int32) v hf
theorem kv_X12_337 : KV RX12 337 yX12_tries cX12_tries 2 none 0 := KV.mk q1965 q1967 qs107 q13 q1968 ⟨by decide, by decide, by decide +kernel⟩
theorem kv_X12_340 : KV RX12 340 yX12_eveningsGo cX12_eveningsGo 3 none 1 := KV.mk q1969 q1971 qs108 q13 q1972 ⟨by decide, by decide, by decide +kernel⟩
def f_X12_goesTo (v : MS) (p0 : Int32) : Option (MS) := (f_X12_tries v).bind (fun q1 => (f_X12_eveningsGo q1 p0).bind (fun q2 => some (q2)))
set_option maxRecDepth 20000 in
theorem c_X12_goesTo {l : Launch} {D : va_G} {dT : Nat → ClassId} {a : Nat → Nat} {v : MS} {p0 : Int32} {res : MS} (hf : f_X12_goesTo v p0 = some res) : CTv l yX12_goesTo cX12_goesTo 2 none ({ frames := 6, cells := 0, slots := 0, locals := 142 } : Room) D dT [.ref (a 0), .int p0] ([wM dT a v]) ([wM dT a res]) := by
  refine CTv.of (by decide) (Nat.le_of_ble_eq_true rfl) rfl ?_
  intro p e s m args below meth c A C
  unfold f_X12_goesTo at hf
  refine wa_aload_n C 0 1 dX12_goesTo_0 rfl rfl ?_
  obtain ⟨q1, hq1, hf⟩ := bind_ex hf
  refine wa_callVAv (b1 := 0) (q1 := 0) (ci := 12) (As := []) C 4 dX12_goesTo_1 rfl kv_X12_337 (c_X12_tries hq1) ⟨rfl, rfl⟩ ⟨Nat.le_of_ble_eq_true rfl, Nat.le_of_ble_eq_true rfl⟩ rfl rfl rfl rfl rfl ⟨Nat.zero_le _, Nat.zero_le _⟩ (Nat.le_of_ble_eq_true rfl) ?_
  refine wa_aload_n C 0 5 dX12_goesTo_4 rfl rfl ?_
  refine wa_iload_n C 1 6 dX12_goesTo_5 rfl rfl ?_
  obtain ⟨q2, hq2, hf⟩ := bind_ex hf
  refine wa_callVAv (b1 := 0) (q1 := 0) (ci := 12) (As := [.int p0]) C 9 dX12_goesTo_6 rfl kv_X12_340 (c_X12_eveningsGo hq2) ⟨rfl, rfl⟩ ⟨Nat.le_of_ble_eq_true rfl, Nat.le_of_ble_eq_true rfl⟩ rfl rfl rfl rfl rfl ⟨Nat.zero_le _, Nat.zero_le _⟩ (Nat.le_of_ble_eq_true rfl) ?_
  cases hf
  exact wa_vret C dX12_goesTo_9 rfl
def f_X12_laysSizes_L45 (k23 : Int32 → MS → Option (MS)) (l1 : Int32) (l2 : Int32) (l3 : Int32) : Nat → Int32 → MS → Option (MS)
  | 0, _, _ => none
  | n + 1, l4, z0 => (if l4 ≤ 0 then grd (vi l4 12) (bnd (z0.1, z0.2.1, uA z0.2.2 15 (l4).toNatClampNeg l3) (fun y7 => bnd (l2 + 1) (fun x8 => k23 x8 y7))) else grd (vi (l4 - (1 : Int32)) 12) ((if l3 ≤ (z0.2.2 15 ((l4 - (1 : Int32))).toNatClampNeg) then grd (vi l4 12) (bnd (z0.1, z0.2.1, uA z0.2.2 15 (l4).toNatClampNeg l3) (fun y12 => bnd (l2 + 1) (fun x13 => k23 x13 y12))) else grd (vi (l4 - (1 : Int32)) 12) (grd (vi l4 12) (bnd (z0.1, z0.2.1, uA z0.2.2 15 (l4).toNatClampNeg (z0.2.2 15 ((l4 - (1 : Int32))).toNatClampNeg)) (fun y16 => bnd (l4 + (-1)) (fun x17 => f_X12_laysSizes_L45 k23 l1 l2 l3 n x17 y16)))))))
def f_X12_laysSizes_L23 (l1 : Int32) : Nat → Int32 → MS → Option (MS)
  | 0, _, _ => none
  | n + 1, l2, z0 => grd (vi (l1 + (1 : Int32)) 172) ((if (z0.2.2 10 ((l1 + (1 : Int32))).toNatClampNeg) ≤ l2 then some (z0) else (f_X12_sizeOf z0 l1 l2).bind (fun q4 => f_X12_laysSizes_L45 (f_X12_laysSizes_L23 l1 n) l1 l2 q4 FUEL l2 z0)))
def f_X12_laysSizes_L2 (l1 : Int32) : Nat → Int32 → MS → Option (MS)
  | 0, _, _ => none
  | n + 1, l2, z0 => (if (12 : Int32) ≤ l2 then f_X12_laysSizes_L23 l1 FUEL (0 : Int32) z0 else grd (vi l2 12) (bnd (z0.1, z0.2.1, uA z0.2.2 15 (l2).toNatClampNeg (0 : Int32)) (fun y19 => bnd (l2 + 1) (fun x20 => f_X12_laysSizes_L2 l1 n x20 y19))))
def f_X12_laysSizes (v : MS) (p0 : Int32) : Option (MS) := f_X12_laysSizes_L2 p0 FUEL (0 : Int32) v
set_option maxRecDepth 20000 in
theorem w_X12_laysSizes_L45 {p : Program} {l : Launch} {e : Env} {s : State} {m : MethodId} {args : Array Value} {below : List Frame} {meth : Method} {c : Code} {D : va_G} {A : Nat → Prop} {dT : Nat → ClassId} {a : Nat → Nat} {res : MS} {l1 : Int32} {l2 : Int32} {l3 : Int32} (C : Cx p s m args meth c cX12_laysSizes 5 RX12 none D A dT) {k23 : Int32 → MS → Option (MS)} (hk23 : ∀ (l2 : Int32) (z0 : MS), k23 l2 z0 = some res → WA p l e ({ frames := 2, cells := 0, slots := 0, locals := 46 } : Room) s m args below meth c (MQ below (QV D dT A ([wM dT a res])) args s 0 0 A) D A 0 0 5 23 ([wM dT a z0]) [(0, .ref (a 0)), (1, .int l1), (2, .int l2)] []) : ∀ (n : Nat) (l4 : Int32) (z0 : MS), f_X12_laysSizes_L45 k23 l1 l2 l3 n l4 z0 = some res → WA p l e ({ frames := 2, cells := 0, slots := 0, locals := 46 } : Room) s m args below meth c (MQ below (QV D dT A ([wM dT a res])) args s 0 0 A) D A 0 0 5 45 ([wM dT a z0]) [(0, .ref (a 0)), (1, .int l1), (2, .int l2), (3, .int l3), (4, .int l4)] [] := by
  intro n
  induction n with
  | zero => intro l4 z0 hf; cases hf
  | succ n ih =>
    intro l4 z0 hf
    unfold f_X12_laysSizes_L45 at hf
    refine wa_iload C 4 47 dX12_laysSizes_45 rfl rfl ?_
    refine wa_if_le C 85 50 dX12_laysSizes_47 rfl rfl (fun c5 => ?_) (fun c5 => ?_)
    · replace hf := ite_t hf c5
      refine wa_aload_n C 0 86 dX12_laysSizes_85 rfl rfl ?_
      refine wa_get C 89 0 0 43 dX12_laysSizes_86 rfl iX12 q1492 rfl (Nat.le_of_ble_eq_true rfl) rfl rfl rfl ?_
      refine wa_iload C 4 91 dX12_laysSizes_89 rfl rfl ?_
      refine wa_iload_n C 3 92 dX12_laysSizes_91 rfl rfl ?_
      obtain ⟨g6, hf⟩ := grd_ex hf
      obtain ⟨y7, ey7, hf⟩ := bnd_ex hf
      refine wa_iast (ws' := [wM dT a y7]) C 93 0 15 dX12_laysSizes_92 rfl rfl rfl (vi_in g6) (by rw [ey7]; rfl) ?_
      obtain ⟨x8, ex8, hf⟩ := bnd_ex hf
      refine wa_iinc (v := x8) (lv' := [(0, .ref (a 0)), (1, .int l1), (2, .int x8), (3, .int l3), (4, .int l4)]) C 2 [1, 2, 0, 3, 4] 96 dX12_laysSizes_93 rfl rfl (by rw [ex8]; rfl) (Nat.le_of_ble_eq_true rfl) rfl ?_
      refine wa_goto C 23 dX12_laysSizes_96 rfl ?_
      refine wa_lv (lv' := [(0, .ref (a 0)), (1, .int l1), (2, .int x8)]) [0, 1, 2] rfl ?_
      exact hk23 x8 y7 hf
    · replace hf := ite_f hf c5
      refine wa_aload_n C 0 51 dX12_laysSizes_50 rfl rfl ?_
      refine wa_get C 54 0 0 43 dX12_laysSizes_51 rfl iX12 q1492 rfl (Nat.le_of_ble_eq_true rfl) rfl rfl rfl ?_
      refine wa_iload C 4 56 dX12_laysSizes_54 rfl rfl ?_
      refine wa_iconst (v := 1) C 57 dX12_laysSizes_56 rfl rfl ?_
      refine wa_isub C 58 dX12_laysSizes_57 rfl ?_
      obtain ⟨g9, hf⟩ := grd_ex hf
      refine wa_iald C 59 0 15 dX12_laysSizes_58 rfl rfl rfl (vi_in g9) ?_
      refine wa_iload_n C 3 60 dX12_laysSizes_59 rfl rfl ?_
      refine wa_icmp_ge C 85 63 dX12_laysSizes_60 rfl rfl (fun c10 => ?_) (fun c10 => ?_)
      · replace hf := ite_t hf c10
        refine wa_aload_n C 0 86 dX12_laysSizes_85 rfl rfl ?_
        refine wa_get C 89 0 0 43 dX12_laysSizes_86 rfl iX12 q1492 rfl (Nat.le_of_ble_eq_true rfl) rfl rfl rfl ?_
        refine wa_iload C 4 91 dX12_laysSizes_89 rfl rfl ?_
        refine wa_iload_n C 3 92 dX12_laysSizes_91 rfl rfl ?_
        obtain ⟨g11, hf⟩ := grd_ex hf
        obtain ⟨y12, ey12, hf⟩ := bnd_ex hf
        refine wa_iast (ws' := [wM dT a y12]) C 93 0 15 dX12_laysSizes_92 rfl rfl rfl (vi_in g11) (by rw [ey12]; rfl) ?_
        obtain ⟨x13, ex13, hf⟩ := bnd_ex hf
        refine wa_iinc (v := x13) (lv' := [(0, .ref (a 0)), (1, .int l1), (2, .int x13), (3, .int l3), (4, .int l4)]) C 2 [1, 2, 0, 3, 4] 96 dX12_laysSizes_93 rfl rfl (by rw [ex13]; rfl) (Nat.le_of_ble_eq_true rfl) rfl ?_
        refine wa_goto C 23 dX12_laysSizes_96 rfl ?_
        refine wa_lv (lv' := [(0, .ref (a 0)), (1, .int l1), (2, .int x13)]) [0, 1, 2] rfl ?_
        exact hk23 x13 y12 hf
      · replace hf := ite_f hf c10
        refine wa_aload_n C 0 64 dX12_laysSizes_63 rfl rfl ?_
        refine wa_get C 67 0 0 43 dX12_laysSizes_64 rfl iX12 q1492 rfl (Nat.le_of_ble_eq_true rfl) rfl rfl rfl ?_
        refine wa_iload C 4 69 dX12_laysSizes_67 rfl rfl ?_
        refine wa_aload_n C 0 70 dX12_laysSizes_69 rfl rfl ?_
        refine wa_get C 73 0 0 43 dX12_laysSizes_70 rfl iX12 q1492 rfl (Nat.le_of_ble_eq_true rfl) rfl rfl rfl ?_
        refine wa_iload C 4 75 dX12_laysSizes_73 rfl rfl ?_
        refine wa_iconst (v := 1) C 76 dX12_laysSizes_75 rfl rfl ?_
        refine wa_isub C 77 dX12_laysSizes_76 rfl ?_
        obtain ⟨g14, hf⟩ := grd_ex hf
        refine wa_iald C 78 0 15 dX12_laysSizes_77 rfl rfl rfl (vi_in g14) ?_
        obtain ⟨g15, hf⟩ := grd_ex hf
        obtain ⟨y16, ey16, hf⟩ := bnd_ex hf
        refine wa_iast (ws' := [wM dT a y16]) C 79 0 15 dX12_laysSizes_78 rfl rfl rfl (vi_in g15) (by rw [ey16]; rfl) ?_
        obtain ⟨x17, ex17, hf⟩ := bnd_ex hf
        refine wa_iinc (v := x17) (lv' := [(0, .ref (a 0)), (1, .int l1), (2, .int l2), (3, .int l3), (4, .int x17)]) C 4 [1, 2, 3, 4, 0] 82 dX12_laysSizes_79 rfl rfl (by rw [ex17]; rfl) (Nat.le_of_ble_eq_true rfl) rfl ?_
        refine wa_goto C 45 dX12_laysSizes_82 rfl ?_
        exact ih x17 y16 hf
set_option maxRecDepth 20000 in
theorem w_X12_laysSizes_L23 {p : Program} {l : Launch} {e : Env} {s : State} {m : MethodId} {args : Array Value} {below : List Frame} {meth : Method} {c : Code} {D : va_G} {A : Nat → Prop} {dT : Nat → ClassId} {a : Nat → Nat} {res : MS} {l1 : Int32} (C : Cx p s m args meth c cX12_laysSizes 5 RX12 none D A dT) : ∀ (n : Nat) (l2 : Int32) (z0 : MS), f_X12_laysSizes_L23 l1 n l2 z0 = some res → WA p l e ({ frames := 2, cells := 0, slots := 0, locals := 46 } : Room) s m args below meth c (MQ below (QV D dT A ([wM dT a res])) args s 0 0 A) D A 0 0 5 23 ([wM dT a z0]) [(0, .ref (a 0)), (1, .int l1), (2, .int l2)] [] := by
  intro n
  induction n with
  | zero => intro l2 z0 hf; cases hf
  | succ n ih =>
    intro l2 z0 hf
    unfold f_X12_laysSizes_L23 at hf
    refine wa_iload_n C 2 24 dX12_laysSizes_23 rfl rfl ?_
    refine wa_aload_n C 0 25 dX12_laysSizes_24 rfl rfl ?_
    refine wa_get C 28 0 0 34 dX12_laysSizes_25 rfl iX12 q1483 rfl (Nat.le_of_ble_eq_true rfl) rfl rfl rfl ?_
    refine wa_iload_n C 1 29 dX12_laysSizes_28 rfl rfl ?_
    refine wa_iconst (v := 1) C 30 dX12_laysSizes_29 rfl rfl ?_
    refine wa_iadd C 31 dX12_laysSizes_30 rfl ?_
    obtain ⟨g2, hf⟩ := grd_ex hf
    refine wa_iald C 32 0 10 dX12_laysSizes_31 rfl rfl rfl (vi_in g2) ?_
    refine wa_icmp_ge C 99 35 dX12_laysSizes_32 rfl rfl (fun c3 => ?_) (fun c3 => ?_)
    · replace hf := ite_t hf c3
      cases hf
      exact wa_vret C dX12_laysSizes_99 rfl
    · replace hf := ite_f hf c3
      refine wa_aload_n C 0 36 dX12_laysSizes_35 rfl rfl ?_
      refine wa_iload_n C 1 37 dX12_laysSizes_36 rfl rfl ?_
      refine wa_iload_n C 2 38 dX12_laysSizes_37 rfl rfl ?_
      obtain ⟨q4, hq4, hf⟩ := bind_ex hf
      refine wa_callVAi (b1 := 0) (q1 := 0) (ci := 12) (As := [.int l1, .int l2]) C 41 dX12_laysSizes_38 rfl kv_X12_297 (c_X12_sizeOf hq4) ⟨rfl, rfl⟩ ⟨Nat.le_of_ble_eq_true rfl, Nat.le_of_ble_eq_true rfl⟩ rfl rfl rfl rfl rfl ⟨Nat.zero_le _, Nat.zero_le _⟩ (Nat.le_of_ble_eq_true rfl) ?_
      refine wa_istore_n (lv' := [(0, .ref (a 0)), (1, .int l1), (2, .int l2), (3, .int q4)]) C [1, 2, 3, 0] 42 dX12_laysSizes_41 rfl (Nat.le_of_ble_eq_true rfl) rfl ?_
      refine wa_iload_n C 2 43 dX12_laysSizes_42 rfl rfl ?_
      refine wa_istore (lv' := [(0, .ref (a 0)), (1, .int l1), (2, .int l2), (3, .int q4), (4, .int l2)]) C [1, 2, 3, 4, 0] 45 dX12_laysSizes_43 rfl (Nat.le_of_ble_eq_true rfl) rfl ?_
      exact w_X12_laysSizes_L45 C ih FUEL l2 z0 hf
set_option maxRecDepth 20000 in
theorem w_X12_laysSizes_L2 {p : Program} {l : Launch} {e : Env} {s : State} {m : MethodId} {args : Array Value} {below : List Frame} {meth : Method} {c : Code} {D : va_G} {A : Nat → Prop} {dT : Nat → ClassId} {a : Nat → Nat} {res : MS} {l1 : Int32} (C : Cx p s m args meth c cX12_laysSizes 5 RX12 none D A dT) : ∀ (n : Nat) (l2 : Int32) (z0 : MS), f_X12_laysSizes_L2 l1 n l2 z0 = some res → WA p l e ({ frames := 2, cells := 0, slots := 0, locals := 46 } : Room) s m args below meth c (MQ below (QV D dT A ([wM dT a res])) args s 0 0 A) D A 0 0 5 2 ([wM dT a z0]) [(0, .ref (a 0)), (1, .int l1), (2, .int l2)] [] := by
  intro n
  induction n with
  | zero => intro l2 z0 hf; cases hf
  | succ n ih =>
    intro l2 z0 hf
    unfold f_X12_laysSizes_L2 at hf
    refine wa_iload_n C 2 3 dX12_laysSizes_2 rfl rfl ?_
    refine wa_bipush (v := 12) C 5 dX12_laysSizes_3 rfl rfl ?_
    refine wa_icmp_ge C 21 8 dX12_laysSizes_5 rfl rfl (fun c1 => ?_) (fun c1 => ?_)
    · replace hf := ite_t hf c1
      refine wa_iconst (v := 0) C 22 dX12_laysSizes_21 rfl rfl ?_
      refine wa_istore_n (lv' := [(0, .ref (a 0)), (1, .int l1), (2, .int (0 : Int32))]) C [1, 2, 0] 23 dX12_laysSizes_22 rfl (Nat.le_of_ble_eq_true rfl) rfl ?_
      exact w_X12_laysSizes_L23 C FUEL (0 : Int32) z0 hf
    · replace hf := ite_f hf c1
      refine wa_aload_n C 0 9 dX12_laysSizes_8 rfl rfl ?_
      refine wa_get C 12 0 0 43 dX12_laysSizes_9 rfl iX12 q1492 rfl (Nat.le_of_ble_eq_true rfl) rfl rfl rfl ?_
      refine wa_iload_n C 2 13 dX12_laysSizes_12 rfl rfl ?_
      refine wa_iconst (v := 0) C 14 dX12_laysSizes_13 rfl rfl ?_
      obtain ⟨g18, hf⟩ := grd_ex hf
      obtain ⟨y19, ey19, hf⟩ := bnd_ex hf
      refine wa_iast (ws' := [wM dT a y19]) C 15 0 15 dX12_laysSizes_14 rfl rfl rfl (vi_in g18) (by rw [ey19]; rfl) ?_
      obtain ⟨x20, ex20, hf⟩ := bnd_ex hf
      refine wa_iinc (v := x20) (lv' := [(0, .ref (a 0)), (1, .int l1), (2, .int x20)]) C 2 [1, 2, 0] 18 dX12_laysSizes_15 rfl rfl (by rw [ex20]; rfl) (Nat.le_of_ble_eq_true rfl) rfl ?_
      refine wa_goto C 2 dX12_laysSizes_18 rfl ?_
      exact ih x20 y19 hf
set_option maxRecDepth 20000 in
theorem c_X12_laysSizes {l : Launch} {D : va_G} {dT : Nat → ClassId} {a : Nat → Nat} {v : MS} {p0 : Int32} {res : MS} (hf : f_X12_laysSizes v p0 = some res) : CTv l yX12_laysSizes cX12_laysSizes 5 none ({ frames := 2, cells := 0, slots := 0, locals := 46 } : Room) D dT [.ref (a 0), .int p0] ([wM dT a v]) ([wM dT a res]) := by
  refine CTv.of (by decide) (Nat.le_of_ble_eq_true rfl) rfl ?_
  intro p e s m args below meth c A C
  unfold f_X12_laysSizes at hf
  refine wa_iconst (v := 0) C 1 dX12_laysSizes_0 rfl rfl ?_
  refine wa_istore_n (lv' := [(0, .ref (a 0)), (1, .int p0), (2, .int (0 : Int32))]) C [1, 2, 0] 2 dX12_laysSizes_1 rfl (Nat.le_of_ble_eq_true rfl) rfl ?_
  exact w_X12_laysSizes_L2 C FUEL (0 : Int32) v hf
def f_X12_aloneOnes_L4 (l1 : Int32) (z0 : MS) : Nat → Int32 → Int32 → Option (Int32)
  | 0, _, _ => none
  | n + 1, l2, l3 => grd (vi (l1 + (1 : Int32)) 172) ((if (z0.2.2 10 ((l1 + (1 : Int32))).toNatClampNeg) ≤ l3 then some (l2) else (f_X12_sizeOf z0 l1 l3).bind (fun q3 => (if q3 = (1 : Int32) then (f_X12_inHouse z0 l1 l3).bind (fun q7 => bnd (l2 ||| q7) (fun x8 => bnd (l3 + 1) (fun x9 => f_X12_aloneOnes_L4 l1 z0 n x8 x9))) else bnd (l2 ||| (0 : Int32)) (fun x5 => bnd (l3 + 1) (fun x6 => f_X12_aloneOnes_L4 l1 z0 n x5 x6))))))
def f_X12_aloneOnes (v : MS) (p0 : Int32) : Option (Int32) := f_X12_aloneOnes_L4 p0 v FUEL (0 : Int32) (0 : Int32)
set_option maxRecDepth 20000 in
theorem w_X12_aloneOnes_L4 {p : Program} {l : Launch} {e : Env} {s : State} {m : MethodId} {args : Array Value} {below : List Frame} {meth : Method} {c : Code} {D : va_G} {A : Nat → Prop} {dT : Nat → ClassId} {a : Nat → Nat} {res : Int32} {l1 : Int32} {z0 : MS} (C : Cx p s m args meth c cX12_aloneOnes 4 RX12 (some .int) D A dT) : ∀ (n : Nat) (l2 : Int32) (l3 : Int32), f_X12_aloneOnes_L4 l1 z0 n l2 l3 = some res → WA p l e ({ frames := 2, cells := 0, slots := 0, locals := 46 } : Room) s m args below meth c (MQ below (QI D dT A ([wM dT a z0]) res) args s 0 0 A) D A 0 0 4 4 ([wM dT a z0]) [(0, .ref (a 0)), (1, .int l1), (2, .int l2), (3, .int l3)] [] := by
  intro n
  induction n with
  | zero => intro l2 l3 hf; cases hf
  | succ n ih =>
    intro l2 l3 hf
    unfold f_X12_aloneOnes_L4 at hf
    refine wa_iload_n C 3 5 dX12_aloneOnes_4 rfl rfl ?_
    refine wa_aload_n C 0 6 dX12_aloneOnes_5 rfl rfl ?_
    refine wa_get C 9 0 0 34 dX12_aloneOnes_6 rfl iX12 q1483 rfl (Nat.le_of_ble_eq_true rfl) rfl rfl rfl ?_
    refine wa_iload_n C 1 10 dX12_aloneOnes_9 rfl rfl ?_
    refine wa_iconst (v := 1) C 11 dX12_aloneOnes_10 rfl rfl ?_
    refine wa_iadd C 12 dX12_aloneOnes_11 rfl ?_
    obtain ⟨g1, hf⟩ := grd_ex hf
    refine wa_iald C 13 0 10 dX12_aloneOnes_12 rfl rfl rfl (vi_in g1) ?_
    refine wa_icmp_ge C 45 16 dX12_aloneOnes_13 rfl rfl (fun c2 => ?_) (fun c2 => ?_)
    · replace hf := ite_t hf c2
      refine wa_iload_n C 2 46 dX12_aloneOnes_45 rfl rfl ?_
      cases hf
      exact wa_iret C dX12_aloneOnes_46 rfl rfl
    · replace hf := ite_f hf c2
      refine wa_iload_n C 2 17 dX12_aloneOnes_16 rfl rfl ?_
      refine wa_aload_n C 0 18 dX12_aloneOnes_17 rfl rfl ?_
      refine wa_iload_n C 1 19 dX12_aloneOnes_18 rfl rfl ?_
      refine wa_iload_n C 3 20 dX12_aloneOnes_19 rfl rfl ?_
      obtain ⟨q3, hq3, hf⟩ := bind_ex hf
      refine wa_callVAi (b1 := 0) (q1 := 0) (ci := 12) (As := [.int l1, .int l3]) C 23 dX12_aloneOnes_20 rfl kv_X12_297 (c_X12_sizeOf hq3) ⟨rfl, rfl⟩ ⟨Nat.le_of_ble_eq_true rfl, Nat.le_of_ble_eq_true rfl⟩ rfl rfl rfl rfl rfl ⟨Nat.zero_le _, Nat.zero_le _⟩ (Nat.le_of_ble_eq_true rfl) ?_
      refine wa_iconst (v := 1) C 24 dX12_aloneOnes_23 rfl rfl ?_
      refine wa_icmp_ne C 36 27 dX12_aloneOnes_24 rfl rfl (fun c4 => ?_) (fun c4 => ?_)
      · replace hf := ite_f hf c4
        refine wa_iconst (v := 0) C 37 dX12_aloneOnes_36 rfl rfl ?_
        refine wa_ior C 38 dX12_aloneOnes_37 rfl ?_
        obtain ⟨x5, ex5, hf⟩ := bnd_ex hf
        refine wa_topi ex5 ?_
        refine wa_istore_n (lv' := [(0, .ref (a 0)), (1, .int l1), (2, .int x5), (3, .int l3)]) C [1, 2, 0, 3] 39 dX12_aloneOnes_38 rfl (Nat.le_of_ble_eq_true rfl) rfl ?_
        obtain ⟨x6, ex6, hf⟩ := bnd_ex hf
        refine wa_iinc (v := x6) (lv' := [(0, .ref (a 0)), (1, .int l1), (2, .int x5), (3, .int x6)]) C 3 [1, 2, 3, 0] 42 dX12_aloneOnes_39 rfl rfl (by rw [ex6]; rfl) (Nat.le_of_ble_eq_true rfl) rfl ?_
        refine wa_goto C 4 dX12_aloneOnes_42 rfl ?_
        exact ih x5 x6 hf
      · replace hf := ite_t hf c4
        refine wa_aload_n C 0 28 dX12_aloneOnes_27 rfl rfl ?_
        refine wa_iload_n C 1 29 dX12_aloneOnes_28 rfl rfl ?_
        refine wa_iload_n C 3 30 dX12_aloneOnes_29 rfl rfl ?_
        obtain ⟨q7, hq7, hf⟩ := bind_ex hf
        refine wa_callVAi (b1 := 0) (q1 := 0) (ci := 12) (As := [.int l1, .int l3]) C 33 dX12_aloneOnes_30 rfl kv_X12_288 (c_X12_inHouse hq7) ⟨rfl, rfl⟩ ⟨Nat.le_of_ble_eq_true rfl, Nat.le_of_ble_eq_true rfl⟩ rfl rfl rfl rfl rfl ⟨Nat.zero_le _, Nat.zero_le _⟩ (Nat.le_of_ble_eq_true rfl) ?_
        refine wa_goto C 37 dX12_aloneOnes_33 rfl ?_
        refine wa_ior C 38 dX12_aloneOnes_37 rfl ?_
        obtain ⟨x8, ex8, hf⟩ := bnd_ex hf
        refine wa_topi ex8 ?_
        refine wa_istore_n (lv' := [(0, .ref (a 0)), (1, .int l1), (2, .int x8), (3, .int l3)]) C [1, 2, 0, 3] 39 dX12_aloneOnes_38 rfl (Nat.le_of_ble_eq_true rfl) rfl ?_
        obtain ⟨x9, ex9, hf⟩ := bnd_ex hf
        refine wa_iinc (v := x9) (lv' := [(0, .ref (a 0)), (1, .int l1), (2, .int x8), (3, .int x9)]) C 3 [1, 2, 3, 0] 42 dX12_aloneOnes_39 rfl rfl (by rw [ex9]; rfl) (Nat.le_of_ble_eq_true rfl) rfl ?_
        refine wa_goto C 4 dX12_aloneOnes_42 rfl ?_
        exact ih x8 x9 hf
set_option maxRecDepth 20000 in
theorem c_X12_aloneOnes {l : Launch} {D : va_G} {dT : Nat → ClassId} {a : Nat → Nat} {v : MS} {p0 : Int32} {res : Int32} (hf : f_X12_aloneOnes v p0 = some res) : CTi l yX12_aloneOnes cX12_aloneOnes 4 (some .int) ({ frames := 2, cells := 0, slots := 0, locals := 46 } : Room) D dT [.ref (a 0), .int p0] ([wM dT a v]) ([wM dT a v]) res := by
  refine CTi.of (by decide) (Nat.le_of_ble_eq_true rfl) rfl ?_
  intro p e s m args below meth c A C
  unfold f_X12_aloneOnes at hf
  refine wa_iconst (v := 0) C 1 dX12_aloneOnes_0 rfl rfl ?_
  refine wa_istore_n (lv' := [(0, .ref (a 0)), (1, .int p0), (2, .int (0 : Int32))]) C [1, 2, 0] 2 dX12_aloneOnes_1 rfl (Nat.le_of_ble_eq_true rfl) rfl ?_
  refine wa_iconst (v := 0) C 3 dX12_aloneOnes_2 rfl rfl ?_
  refine wa_istore_n (lv' := [(0, .ref (a 0)), (1, .int p0), (2, .int (0 : Int32)), (3, .int (0 : Int32))]) C [1, 2, 3, 0] 4 dX12_aloneOnes_3 rfl (Nat.le_of_ble_eq_true rfl) rfl ?_
  exact w_X12_aloneOnes_L4 C FUEL (0 : Int32) (0 : Int32) hf
def f_X12_friendsIn_L4 (l1 : Int32) (z0 : MS) : Nat → Int32 → Int32 → Option (Int32)
  | 0, _, _ => none
  | n + 1, l2, l3 => (if (z0.1 2) ≤ l3 then some (l2) else grd (vi ((2 : Int32) * l3) 24) (grd (vi ((l1 + (2 : Int32)) + (z0.2.2 1 (((2 : Int32) * l3)).toNatClampNeg)) 172) (grd (vi (((2 : Int32) * l3) + (1 : Int32)) 24) (grd (vi ((l1 + (2 : Int32)) + (z0.2.2 1 ((((2 : Int32) * l3) + (1 : Int32))).toNatClampNeg)) 172) ((if (z0.2.2 10 (((l1 + (2 : Int32)) + (z0.2.2 1 (((2 : Int32) * l3)).toNatClampNeg))).toNatClampNeg) = (z0.2.2 10 (((l1 + (2 : Int32)) + (z0.2.2 1 ((((2 : Int32) * l3) + (1 : Int32))).toNatClampNeg))).toNatClampNeg) then bnd (l2 + (1 : Int32)) (fun x9 => bnd (l3 + 1) (fun x10 => f_X12_friendsIn_L4 l1 z0 n x9 x10)) else bnd (l2 + (0 : Int32)) (fun x7 => bnd (l3 + 1) (fun x8 => f_X12_friendsIn_L4 l1 z0 n x7 x8))))))))
def f_X12_friendsIn (v : MS) (p0 : Int32) : Option (Int32) := f_X12_friendsIn_L4 p0 v FUEL (0 : Int32) (0 : Int32)
set_option maxRecDepth 20000 in
theorem w_X12_friendsIn_L4 {p : Program} {l : Launch} {e : Env} {s : State} {m : MethodId} {args : Array Value} {below : List Frame} {meth : Method} {c : Code} {D : va_G} {A : Nat → Prop} {dT : Nat → ClassId} {a : Nat → Nat} {res : Int32} {l1 : Int32} {z0 : MS} (C : Cx p s m args meth c cX12_friendsIn 4 RX12 (some .int) D A dT) : ∀ (n : Nat) (l2 : Int32) (l3 : Int32), f_X12_friendsIn_L4 l1 z0 n l2 l3 = some res → WA p l e ({ frames := 0, cells := 0, slots := 0, locals := 0 } : Room) s m args below meth c (MQ below (QI D dT A ([wM dT a z0]) res) args s 0 0 A) D A 0 0 4 4 ([wM dT a z0]) [(0, .ref (a 0)), (1, .int l1), (2, .int l2), (3, .int l3)] [] := by
  intro n
  induction n with
  | zero => intro l2 l3 hf; cases hf
  | succ n ih =>
    intro l2 l3 hf
    unfold f_X12_friendsIn_L4 at hf
    refine wa_iload_n C 3 5 dX12_friendsIn_4 rfl rfl ?_
    refine wa_aload_n C 0 6 dX12_friendsIn_5 rfl rfl ?_
    refine wa_get C 9 0 0 2 dX12_friendsIn_6 rfl iX12 q1451 rfl (Nat.le_of_ble_eq_true rfl) rfl rfl rfl ?_
    refine wa_icmp_ge C 65 12 dX12_friendsIn_9 rfl rfl (fun c1 => ?_) (fun c1 => ?_)
    · replace hf := ite_t hf c1
      refine wa_iload_n C 2 66 dX12_friendsIn_65 rfl rfl ?_
      cases hf
      exact wa_iret C dX12_friendsIn_66 rfl rfl
    · replace hf := ite_f hf c1
      refine wa_iload_n C 2 13 dX12_friendsIn_12 rfl rfl ?_
      refine wa_aload_n C 0 14 dX12_friendsIn_13 rfl rfl ?_
      refine wa_get C 17 0 0 34 dX12_friendsIn_14 rfl iX12 q1483 rfl (Nat.le_of_ble_eq_true rfl) rfl rfl rfl ?_
      refine wa_iload_n C 1 18 dX12_friendsIn_17 rfl rfl ?_
      refine wa_iconst (v := 2) C 19 dX12_friendsIn_18 rfl rfl ?_
      refine wa_iadd C 20 dX12_friendsIn_19 rfl ?_
      refine wa_aload_n C 0 21 dX12_friendsIn_20 rfl rfl ?_
      refine wa_get C 24 0 0 5 dX12_friendsIn_21 rfl iX12 q1454 rfl (Nat.le_of_ble_eq_true rfl) rfl rfl rfl ?_
      refine wa_iconst (v := 2) C 25 dX12_friendsIn_24 rfl rfl ?_
      refine wa_iload_n C 3 26 dX12_friendsIn_25 rfl rfl ?_
      refine wa_imul C 27 dX12_friendsIn_26 rfl ?_
      obtain ⟨g2, hf⟩ := grd_ex hf
      refine wa_iald C 28 0 1 dX12_friendsIn_27 rfl rfl rfl (vi_in g2) ?_
      refine wa_iadd C 29 dX12_friendsIn_28 rfl ?_
      obtain ⟨g3, hf⟩ := grd_ex hf
      refine wa_iald C 30 0 10 dX12_friendsIn_29 rfl rfl rfl (vi_in g3) ?_
      refine wa_aload_n C 0 31 dX12_friendsIn_30 rfl rfl ?_
      refine wa_get C 34 0 0 34 dX12_friendsIn_31 rfl iX12 q1483 rfl (Nat.le_of_ble_eq_true rfl) rfl rfl rfl ?_
      refine wa_iload_n C 1 35 dX12_friendsIn_34 rfl rfl ?_
      refine wa_iconst (v := 2) C 36 dX12_friendsIn_35 rfl rfl ?_
      refine wa_iadd C 37 dX12_friendsIn_36 rfl ?_
      refine wa_aload_n C 0 38 dX12_friendsIn_37 rfl rfl ?_
      refine wa_get C 41 0 0 5 dX12_friendsIn_38 rfl iX12 q1454 rfl (Nat.le_of_ble_eq_true rfl) rfl rfl rfl ?_
      refine wa_iconst (v := 2) C 42 dX12_friendsIn_41 rfl rfl ?_
      refine wa_iload_n C 3 43 dX12_friendsIn_42 rfl rfl ?_
      refine wa_imul C 44 dX12_friendsIn_43 rfl ?_
      refine wa_iconst (v := 1) C 45 dX12_friendsIn_44 rfl rfl ?_
      refine wa_iadd C 46 dX12_friendsIn_45 rfl ?_
      obtain ⟨g4, hf⟩ := grd_ex hf
      refine wa_iald C 47 0 1 dX12_friendsIn_46 rfl rfl rfl (vi_in g4) ?_
      refine wa_iadd C 48 dX12_friendsIn_47 rfl ?_
      obtain ⟨g5, hf⟩ := grd_ex hf
      refine wa_iald C 49 0 10 dX12_friendsIn_48 rfl rfl rfl (vi_in g5) ?_
      refine wa_icmp_ne C 56 52 dX12_friendsIn_49 rfl rfl (fun c6 => ?_) (fun c6 => ?_)
      · replace hf := ite_f hf c6
        refine wa_iconst (v := 0) C 57 dX12_friendsIn_56 rfl rfl ?_
        refine wa_iadd C 58 dX12_friendsIn_57 rfl ?_
        obtain ⟨x7, ex7, hf⟩ := bnd_ex hf
        refine wa_topi ex7 ?_
        refine wa_istore_n (lv' := [(0, .ref (a 0)), (1, .int l1), (2, .int x7), (3, .int l3)]) C [1, 2, 0, 3] 59 dX12_friendsIn_58 rfl (Nat.le_of_ble_eq_true rfl) rfl ?_
        obtain ⟨x8, ex8, hf⟩ := bnd_ex hf
        refine wa_iinc (v := x8) (lv' := [(0, .ref (a 0)), (1, .int l1), (2, .int x7), (3, .int x8)]) C 3 [1, 2, 3, 0] 62 dX12_friendsIn_59 rfl rfl (by rw [ex8]; rfl) (Nat.le_of_ble_eq_true rfl) rfl ?_
        refine wa_goto C 4 dX12_friendsIn_62 rfl ?_
        exact ih x7 x8 hf
      · replace hf := ite_t hf c6
        refine wa_iconst (v := 1) C 53 dX12_friendsIn_52 rfl rfl ?_
        refine wa_goto C 57 dX12_friendsIn_53 rfl ?_
        refine wa_iadd C 58 dX12_friendsIn_57 rfl ?_
        obtain ⟨x9, ex9, hf⟩ := bnd_ex hf
        refine wa_topi ex9 ?_
        refine wa_istore_n (lv' := [(0, .ref (a 0)), (1, .int l1), (2, .int x9), (3, .int l3)]) C [1, 2, 0, 3] 59 dX12_friendsIn_58 rfl (Nat.le_of_ble_eq_true rfl) rfl ?_
        obtain ⟨x10, ex10, hf⟩ := bnd_ex hf
        refine wa_iinc (v := x10) (lv' := [(0, .ref (a 0)), (1, .int l1), (2, .int x9), (3, .int x10)]) C 3 [1, 2, 3, 0] 62 dX12_friendsIn_59 rfl rfl (by rw [ex10]; rfl) (Nat.le_of_ble_eq_true rfl) rfl ?_
        refine wa_goto C 4 dX12_friendsIn_62 rfl ?_
        exact ih x9 x10 hf
set_option maxRecDepth 20000 in
theorem c_X12_friendsIn {l : Launch} {D : va_G} {dT : Nat → ClassId} {a : Nat → Nat} {v : MS} {p0 : Int32} {res : Int32} (hf : f_X12_friendsIn v p0 = some res) : CTi l yX12_friendsIn cX12_friendsIn 4 (some .int) ({ frames := 0, cells := 0, slots := 0, locals := 0 } : Room) D dT [.ref (a 0), .int p0] ([wM dT a v]) ([wM dT a v]) res := by
  refine CTi.of (by decide) (Nat.le_of_ble_eq_true rfl) rfl ?_
  intro p e s m args below meth c A C
  unfold f_X12_friendsIn at hf
  refine wa_iconst (v := 0) C 1 dX12_friendsIn_0 rfl rfl ?_
  refine wa_istore_n (lv' := [(0, .ref (a 0)), (1, .int p0), (2, .int (0 : Int32))]) C [1, 2, 0] 2 dX12_friendsIn_1 rfl (Nat.le_of_ble_eq_true rfl) rfl ?_
  refine wa_iconst (v := 0) C 3 dX12_friendsIn_2 rfl rfl ?_
  refine wa_istore_n (lv' := [(0, .ref (a 0)), (1, .int p0), (2, .int (0 : Int32)), (3, .int (0 : Int32))]) C [1, 2, 3, 0] 4 dX12_friendsIn_3 rfl (Nat.le_of_ble_eq_true rfl) rfl ?_
  exact w_X12_friendsIn_L4 C FUEL (0 : Int32) (0 : Int32) hf
theorem kv_X12_343 : KV RX12 343 yX12_laysSizes cX12_laysSizes 5 none 1 := KV.mk q1782 q1784 qs73 q13 q1785 ⟨by decide, by decide, by decide +kernel⟩
def f_X12_stairs_L9 (l1 : Int32) (z0 : MS) : Nat → Int32 → Int32 → Option (Int32 × MS)
  | 0, _, _ => none
  | n + 1, l2, l3 => grd (vi (l1 + (1 : Int32)) 172) ((if (z0.2.2 10 ((l1 + (1 : Int32))).toNatClampNeg) ≤ l3 then (if l2 = 0 then some ((0 : Int32), z0) else some ((1 : Int32), z0)) else (if l2 = 0 then bnd (l3 + 1) (fun x6 => f_X12_stairs_L9 l1 z0 n (0 : Int32) x6) else grd (vi l3 12) (grd (vi (l1 + (1 : Int32)) 172) ((if (z0.2.2 15 (l3).toNatClampNeg) = ((z0.2.2 10 ((l1 + (1 : Int32))).toNatClampNeg) - l3) then bnd (l3 + 1) (fun x11 => f_X12_stairs_L9 l1 z0 n (1 : Int32) x11) else bnd (l3 + 1) (fun x10 => f_X12_stairs_L9 l1 z0 n (0 : Int32) x10)))))))
def f_X12_stairs (v : MS) (p0 : Int32) : Option (Int32 × MS) := (f_X12_laysSizes v p0).bind (fun q1 => f_X12_stairs_L9 p0 q1 FUEL (1 : Int32) (0 : Int32))
set_option maxRecDepth 20000 in
theorem w_X12_stairs_L9 {p : Program} {l : Launch} {e : Env} {s : State} {m : MethodId} {args : Array Value} {below : List Frame} {meth : Method} {c : Code} {D : va_G} {A : Nat → Prop} {dT : Nat → ClassId} {a : Nat → Nat} {res : Int32 × MS} {l1 : Int32} {z0 : MS} (C : Cx p s m args meth c cX12_stairs 4 RX12 (some .int) D A dT) : ∀ (n : Nat) (l2 : Int32) (l3 : Int32), f_X12_stairs_L9 l1 z0 n l2 l3 = some res → WA p l e ({ frames := 3, cells := 0, slots := 0, locals := 70 } : Room) s m args below meth c (MQ below (QI D dT A ([wM dT a res.2]) res.1) args s 0 0 A) D A 0 0 4 9 ([wM dT a z0]) [(0, .ref (a 0)), (1, .int l1), (2, .int l2), (3, .int l3)] [] := by
  intro n
  induction n with
  | zero => intro l2 l3 hf; cases hf
  | succ n ih =>
    intro l2 l3 hf
    unfold f_X12_stairs_L9 at hf
    refine wa_iload_n C 3 10 dX12_stairs_9 rfl rfl ?_
    refine wa_aload_n C 0 11 dX12_stairs_10 rfl rfl ?_
    refine wa_get C 14 0 0 34 dX12_stairs_11 rfl iX12 q1483 rfl (Nat.le_of_ble_eq_true rfl) rfl rfl rfl ?_
    refine wa_iload_n C 1 15 dX12_stairs_14 rfl rfl ?_
    refine wa_iconst (v := 1) C 16 dX12_stairs_15 rfl rfl ?_
    refine wa_iadd C 17 dX12_stairs_16 rfl ?_
    obtain ⟨g2, hf⟩ := grd_ex hf
    refine wa_iald C 18 0 10 dX12_stairs_17 rfl rfl rfl (vi_in g2) ?_
    refine wa_icmp_ge C 56 21 dX12_stairs_18 rfl rfl (fun c3 => ?_) (fun c3 => ?_)
    · replace hf := ite_t hf c3
      refine wa_iload_n C 2 57 dX12_stairs_56 rfl rfl ?_
      refine wa_if_eq C 64 60 dX12_stairs_57 rfl rfl (fun c4 => ?_) (fun c4 => ?_)
      · replace hf := ite_t hf c4
        refine wa_iconst (v := 0) C 65 dX12_stairs_64 rfl rfl ?_
        cases hf
        exact wa_iret C dX12_stairs_65 rfl rfl
      · replace hf := ite_f hf c4
        refine wa_iconst (v := 1) C 61 dX12_stairs_60 rfl rfl ?_
        refine wa_goto C 65 dX12_stairs_61 rfl ?_
        cases hf
        exact wa_iret C dX12_stairs_65 rfl rfl
    · replace hf := ite_f hf c3
      refine wa_iload_n C 2 22 dX12_stairs_21 rfl rfl ?_
      refine wa_if_eq C 48 25 dX12_stairs_22 rfl rfl (fun c5 => ?_) (fun c5 => ?_)
      · replace hf := ite_t hf c5
        refine wa_iconst (v := 0) C 49 dX12_stairs_48 rfl rfl ?_
        refine wa_istore_n (lv' := [(0, .ref (a 0)), (1, .int l1), (2, .int (0 : Int32)), (3, .int l3)]) C [1, 2, 0, 3] 50 dX12_stairs_49 rfl (Nat.le_of_ble_eq_true rfl) rfl ?_
        obtain ⟨x6, ex6, hf⟩ := bnd_ex hf
        refine wa_iinc (v := x6) (lv' := [(0, .ref (a 0)), (1, .int l1), (2, .int (0 : Int32)), (3, .int x6)]) C 3 [1, 2, 3, 0] 53 dX12_stairs_50 rfl rfl (by rw [ex6]; rfl) (Nat.le_of_ble_eq_true rfl) rfl ?_
        refine wa_goto C 9 dX12_stairs_53 rfl ?_
        exact ih (0 : Int32) x6 hf
      · replace hf := ite_f hf c5
        refine wa_aload_n C 0 26 dX12_stairs_25 rfl rfl ?_
        refine wa_get C 29 0 0 43 dX12_stairs_26 rfl iX12 q1492 rfl (Nat.le_of_ble_eq_true rfl) rfl rfl rfl ?_
        refine wa_iload_n C 3 30 dX12_stairs_29 rfl rfl ?_
        obtain ⟨g7, hf⟩ := grd_ex hf
        refine wa_iald C 31 0 15 dX12_stairs_30 rfl rfl rfl (vi_in g7) ?_
        refine wa_aload_n C 0 32 dX12_stairs_31 rfl rfl ?_
        refine wa_get C 35 0 0 34 dX12_stairs_32 rfl iX12 q1483 rfl (Nat.le_of_ble_eq_true rfl) rfl rfl rfl ?_
        refine wa_iload_n C 1 36 dX12_stairs_35 rfl rfl ?_
        refine wa_iconst (v := 1) C 37 dX12_stairs_36 rfl rfl ?_
        refine wa_iadd C 38 dX12_stairs_37 rfl ?_
        obtain ⟨g8, hf⟩ := grd_ex hf
        refine wa_iald C 39 0 10 dX12_stairs_38 rfl rfl rfl (vi_in g8) ?_
        refine wa_iload_n C 3 40 dX12_stairs_39 rfl rfl ?_
        refine wa_isub C 41 dX12_stairs_40 rfl ?_
        refine wa_icmp_ne C 48 44 dX12_stairs_41 rfl rfl (fun c9 => ?_) (fun c9 => ?_)
        · replace hf := ite_f hf c9
          refine wa_iconst (v := 0) C 49 dX12_stairs_48 rfl rfl ?_
          refine wa_istore_n (lv' := [(0, .ref (a 0)), (1, .int l1), (2, .int (0 : Int32)), (3, .int l3)]) C [1, 2, 0, 3] 50 dX12_stairs_49 rfl (Nat.le_of_ble_eq_true rfl) rfl ?_
          obtain ⟨x10, ex10, hf⟩ := bnd_ex hf
          refine wa_iinc (v := x10) (lv' := [(0, .ref (a 0)), (1, .int l1), (2, .int (0 : Int32)), (3, .int x10)]) C 3 [1, 2, 3, 0] 53 dX12_stairs_50 rfl rfl (by rw [ex10]; rfl) (Nat.le_of_ble_eq_true rfl) rfl ?_
          refine wa_goto C 9 dX12_stairs_53 rfl ?_
          exact ih (0 : Int32) x10 hf
        · replace hf := ite_t hf c9
          refine wa_iconst (v := 1) C 45 dX12_stairs_44 rfl rfl ?_
          refine wa_goto C 49 dX12_stairs_45 rfl ?_
          refine wa_istore_n (lv' := [(0, .ref (a 0)), (1, .int l1), (2, .int (1 : Int32)), (3, .int l3)]) C [1, 2, 0, 3] 50 dX12_stairs_49 rfl (Nat.le_of_ble_eq_true rfl) rfl ?_
          obtain ⟨x11, ex11, hf⟩ := bnd_ex hf
          refine wa_iinc (v := x11) (lv' := [(0, .ref (a 0)), (1, .int l1), (2, .int (1 : Int32)), (3, .int x11)]) C 3 [1, 2, 3, 0] 53 dX12_stairs_50 rfl rfl (by rw [ex11]; rfl) (Nat.le_of_ble_eq_true rfl) rfl ?_
          refine wa_goto C 9 dX12_stairs_53 rfl ?_
          exact ih (1 : Int32) x11 hf
set_option maxRecDepth 20000 in
theorem c_X12_stairs {l : Launch} {D : va_G} {dT : Nat → ClassId} {a : Nat → Nat} {v : MS} {p0 : Int32} {res : Int32 × MS} (hf : f_X12_stairs v p0 = some res) : CTi l yX12_stairs cX12_stairs 4 (some .int) ({ frames := 3, cells := 0, slots := 0, locals := 70 } : Room) D dT [.ref (a 0), .int p0] ([wM dT a v]) ([wM dT a res.2]) res.1 := by
  refine CTi.of (by decide) (Nat.le_of_ble_eq_true rfl) rfl ?_
  intro p e s m args below meth c A C
  unfold f_X12_stairs at hf
  refine wa_aload_n C 0 1 dX12_stairs_0 rfl rfl ?_
  refine wa_iload_n C 1 2 dX12_stairs_1 rfl rfl ?_
  obtain ⟨q1, hq1, hf⟩ := bind_ex hf
  refine wa_callVAv (b1 := 0) (q1 := 0) (ci := 12) (As := [.int p0]) C 5 dX12_stairs_2 rfl kv_X12_343 (c_X12_laysSizes hq1) ⟨rfl, rfl⟩ ⟨Nat.le_of_ble_eq_true rfl, Nat.le_of_ble_eq_true rfl⟩ rfl rfl rfl rfl rfl ⟨Nat.zero_le _, Nat.zero_le _⟩ (Nat.le_of_ble_eq_true rfl) ?_
  refine wa_iconst (v := 1) C 6 dX12_stairs_5 rfl rfl ?_
  refine wa_istore_n (lv' := [(0, .ref (a 0)), (1, .int p0), (2, .int (1 : Int32))]) C [1, 2, 0] 7 dX12_stairs_6 rfl (Nat.le_of_ble_eq_true rfl) rfl ?_
  refine wa_iconst (v := 0) C 8 dX12_stairs_7 rfl rfl ?_
  refine wa_istore_n (lv' := [(0, .ref (a 0)), (1, .int p0), (2, .int (1 : Int32)), (3, .int (0 : Int32))]) C [1, 2, 3, 0] 9 dX12_stairs_8 rfl (Nat.le_of_ble_eq_true rfl) rfl ?_
  exact w_X12_stairs_L9 C FUEL (1 : Int32) (0 : Int32) hf
def f_X12_pasts_J50 (k18 : Int32 → Int32 → Option (Int32 × MS)) (z0 : MS) (l2 : Int32) (t0 : Int32) : Option (Int32 × MS) := grd (vi l2 12) (grd (vi (1 : Int32) 172) ((if (z0.2.2 15 (l2).toNatClampNeg) < ((z0.2.2 10 ((1 : Int32)).toNatClampNeg) - (1 : Int32)) then bnd (t0 + (0 : Int32)) (fun x9 => bnd (l2 + 1) (fun x10 => k18 x9 x10)) else bnd (t0 + (1 : Int32)) (fun x11 => bnd (l2 + 1) (fun x12 => k18 x11 x12)))))
def f_X12_pasts_L18 (z0 : MS) : Nat → Int32 → Int32 → Option (Int32 × MS)
  | 0, _, _ => none
  | n + 1, l1, l2 => grd (vi (1 : Int32) 172) ((if (z0.2.2 10 ((1 : Int32)).toNatClampNeg) ≤ l2 then some (l1, z0) else (if l2 = 0 then f_X12_pasts_J50 (f_X12_pasts_L18 z0 n) z0 l2 l1 else grd (vi l2 12) (grd (vi (l2 - (1 : Int32)) 12) ((if (z0.2.2 15 (l2).toNatClampNeg) = (z0.2.2 15 ((l2 - (1 : Int32))).toNatClampNeg) then bnd (l1 + (0 : Int32)) (fun x16 => bnd (l2 + 1) (fun x17 => f_X12_pasts_L18 z0 n x16 x17)) else f_X12_pasts_J50 (f_X12_pasts_L18 z0 n) z0 l2 l1))))))
def f_X12_pasts (v : MS) : Option (Int32 × MS) := (if (v.1 1) = 0 then some ((1 : Int32), v) else (f_X12_laysSizes v (0 : Int32)).bind (fun q2 => f_X12_pasts_L18 q2 FUEL (0 : Int32) (0 : Int32)))
set_option maxRecDepth 20000 in
theorem w_X12_pasts_J50 {p : Program} {l : Launch} {e : Env} {s : State} {m : MethodId} {args : Array Value} {below : List Frame} {meth : Method} {c : Code} {D : va_G} {A : Nat → Prop} {dT : Nat → ClassId} {a : Nat → Nat} {res : Int32 × MS} {z0 : MS} (C : Cx p s m args meth c cX12_pasts 3 RX12 (some .int) D A dT) {k18 : Int32 → Int32 → Option (Int32 × MS)} (hk18 : ∀ (l1 : Int32) (l2 : Int32), k18 l1 l2 = some res → WA p l e ({ frames := 3, cells := 0, slots := 0, locals := 70 } : Room) s m args below meth c (MQ below (QI D dT A ([wM dT a res.2]) res.1) args s 0 0 A) D A 0 0 3 18 ([wM dT a z0]) [(0, .ref (a 0)), (1, .int l1), (2, .int l2)] []) : ∀ (l2 : Int32) (t0 : Int32), f_X12_pasts_J50 k18 z0 l2 t0 = some res → WA p l e ({ frames := 3, cells := 0, slots := 0, locals := 70 } : Room) s m args below meth c (MQ below (QI D dT A ([wM dT a res.2]) res.1) args s 0 0 A) D A 0 0 3 50 ([wM dT a z0]) [(0, .ref (a 0)), (2, .int l2)] [.int t0] := by
  intro l2 t0 hf
  unfold f_X12_pasts_J50 at hf
  refine wa_aload_n C 0 51 dX12_pasts_50 rfl rfl ?_
  refine wa_get C 54 0 0 43 dX12_pasts_51 rfl iX12 q1492 rfl (Nat.le_of_ble_eq_true rfl) rfl rfl rfl ?_
  refine wa_iload_n C 1 55 dX12_pasts_54 rfl rfl ?_
  obtain ⟨g6, hf⟩ := grd_ex hf
  refine wa_iald C 56 0 15 dX12_pasts_55 rfl rfl rfl (vi_in g6) ?_
  refine wa_aload_n C 0 57 dX12_pasts_56 rfl rfl ?_
  refine wa_get C 60 0 0 34 dX12_pasts_57 rfl iX12 q1483 rfl (Nat.le_of_ble_eq_true rfl) rfl rfl rfl ?_
  refine wa_iconst (v := 1) C 61 dX12_pasts_60 rfl rfl ?_
  obtain ⟨g7, hf⟩ := grd_ex hf
  refine wa_iald C 62 0 10 dX12_pasts_61 rfl rfl rfl (vi_in g7) ?_
  refine wa_iconst (v := 1) C 63 dX12_pasts_62 rfl rfl ?_
  refine wa_isub C 64 dX12_pasts_63 rfl ?_
  refine wa_icmp_lt C 71 67 dX12_pasts_64 rfl rfl (fun c8 => ?_) (fun c8 => ?_)
  · replace hf := ite_t hf c8
    refine wa_iconst (v := 0) C 72 dX12_pasts_71 rfl rfl ?_
    refine wa_iadd C 73 dX12_pasts_72 rfl ?_
    obtain ⟨x9, ex9, hf⟩ := bnd_ex hf
    refine wa_topi ex9 ?_
    refine wa_istore_n (lv' := [(0, .ref (a 0)), (1, .int x9), (2, .int l2)]) C [1, 0, 2] 74 dX12_pasts_73 rfl (Nat.le_of_ble_eq_true rfl) rfl ?_
    obtain ⟨x10, ex10, hf⟩ := bnd_ex hf
    refine wa_iinc (v := x10) (lv' := [(0, .ref (a 0)), (1, .int x9), (2, .int x10)]) C 2 [1, 2, 0] 77 dX12_pasts_74 rfl rfl (by rw [ex10]; rfl) (Nat.le_of_ble_eq_true rfl) rfl ?_
    refine wa_goto C 18 dX12_pasts_77 rfl ?_
    exact hk18 x9 x10 hf
  · replace hf := ite_f hf c8
    refine wa_iconst (v := 1) C 68 dX12_pasts_67 rfl rfl ?_
    refine wa_goto C 72 dX12_pasts_68 rfl ?_
    refine wa_iadd C 73 dX12_pasts_72 rfl ?_
    obtain ⟨x11, ex11, hf⟩ := bnd_ex hf
    refine wa_topi ex11 ?_
    refine wa_istore_n (lv' := [(0, .ref (a 0)), (1, .int x11), (2, .int l2)]) C [1, 0, 2] 74 dX12_pasts_73 rfl (Nat.le_of_ble_eq_true rfl) rfl ?_
    obtain ⟨x12, ex12, hf⟩ := bnd_ex hf
    refine wa_iinc (v := x12) (lv' := [(0, .ref (a 0)), (1, .int x11), (2, .int x12)]) C 2 [1, 2, 0] 77 dX12_pasts_74 rfl rfl (by rw [ex12]; rfl) (Nat.le_of_ble_eq_true rfl) rfl ?_
    refine wa_goto C 18 dX12_pasts_77 rfl ?_
    exact hk18 x11 x12 hf
set_option maxRecDepth 20000 in
theorem w_X12_pasts_L18 {p : Program} {l : Launch} {e : Env} {s : State} {m : MethodId} {args : Array Value} {below : List Frame} {meth : Method} {c : Code} {D : va_G} {A : Nat → Prop} {dT : Nat → ClassId} {a : Nat → Nat} {res : Int32 × MS} {z0 : MS} (C : Cx p s m args meth c cX12_pasts 3 RX12 (some .int) D A dT) : ∀ (n : Nat) (l1 : Int32) (l2 : Int32), f_X12_pasts_L18 z0 n l1 l2 = some res → WA p l e ({ frames := 3, cells := 0, slots := 0, locals := 70 } : Room) s m args below meth c (MQ below (QI D dT A ([wM dT a res.2]) res.1) args s 0 0 A) D A 0 0 3 18 ([wM dT a z0]) [(0, .ref (a 0)), (1, .int l1), (2, .int l2)] [] := by
  intro n
  induction n with
  | zero => intro l1 l2 hf; cases hf
  | succ n ih =>
    intro l1 l2 hf
    unfold f_X12_pasts_L18 at hf
    refine wa_iload_n C 2 19 dX12_pasts_18 rfl rfl ?_
    refine wa_aload_n C 0 20 dX12_pasts_19 rfl rfl ?_
    refine wa_get C 23 0 0 34 dX12_pasts_20 rfl iX12 q1483 rfl (Nat.le_of_ble_eq_true rfl) rfl rfl rfl ?_
    refine wa_iconst (v := 1) C 24 dX12_pasts_23 rfl rfl ?_
    obtain ⟨g3, hf⟩ := grd_ex hf
    refine wa_iald C 25 0 10 dX12_pasts_24 rfl rfl rfl (vi_in g3) ?_
    refine wa_icmp_ge C 80 28 dX12_pasts_25 rfl rfl (fun c4 => ?_) (fun c4 => ?_)
    · replace hf := ite_t hf c4
      refine wa_iload_n C 1 81 dX12_pasts_80 rfl rfl ?_
      cases hf
      exact wa_iret C dX12_pasts_81 rfl rfl
    · replace hf := ite_f hf c4
      refine wa_iload_n C 1 29 dX12_pasts_28 rfl rfl ?_
      refine wa_iload_n C 2 30 dX12_pasts_29 rfl rfl ?_
      refine wa_if_eq C 50 33 dX12_pasts_30 rfl rfl (fun c5 => ?_) (fun c5 => ?_)
      · replace hf := ite_t hf c5
        refine wa_lv (lv' := [(0, .ref (a 0)), (2, .int l2)]) [0, 2] rfl ?_
        exact w_X12_pasts_J50 C ih l2 l1 hf
      · replace hf := ite_f hf c5
        refine wa_aload_n C 0 34 dX12_pasts_33 rfl rfl ?_
        refine wa_get C 37 0 0 43 dX12_pasts_34 rfl iX12 q1492 rfl (Nat.le_of_ble_eq_true rfl) rfl rfl rfl ?_
        refine wa_iload_n C 2 38 dX12_pasts_37 rfl rfl ?_
        obtain ⟨g13, hf⟩ := grd_ex hf
        refine wa_iald C 39 0 15 dX12_pasts_38 rfl rfl rfl (vi_in g13) ?_
        refine wa_aload_n C 0 40 dX12_pasts_39 rfl rfl ?_
        refine wa_get C 43 0 0 43 dX12_pasts_40 rfl iX12 q1492 rfl (Nat.le_of_ble_eq_true rfl) rfl rfl rfl ?_
        refine wa_iload_n C 2 44 dX12_pasts_43 rfl rfl ?_
        refine wa_iconst (v := 1) C 45 dX12_pasts_44 rfl rfl ?_
        refine wa_isub C 46 dX12_pasts_45 rfl ?_
        obtain ⟨g14, hf⟩ := grd_ex hf
        refine wa_iald C 47 0 15 dX12_pasts_46 rfl rfl rfl (vi_in g14) ?_
        refine wa_icmp_eq C 71 50 dX12_pasts_47 rfl rfl (fun c15 => ?_) (fun c15 => ?_)
        · replace hf := ite_t hf c15
          refine wa_iconst (v := 0) C 72 dX12_pasts_71 rfl rfl ?_
          refine wa_iadd C 73 dX12_pasts_72 rfl ?_
          obtain ⟨x16, ex16, hf⟩ := bnd_ex hf
          refine wa_topi ex16 ?_
          refine wa_istore_n (lv' := [(0, .ref (a 0)), (1, .int x16), (2, .int l2)]) C [1, 0, 2] 74 dX12_pasts_73 rfl (Nat.le_of_ble_eq_true rfl) rfl ?_
          obtain ⟨x17, ex17, hf⟩ := bnd_ex hf
          refine wa_iinc (v := x17) (lv' := [(0, .ref (a 0)), (1, .int x16), (2, .int x17)]) C 2 [1, 2, 0] 77 dX12_pasts_74 rfl rfl (by rw [ex17]; rfl) (Nat.le_of_ble_eq_true rfl) rfl ?_
          refine wa_goto C 18 dX12_pasts_77 rfl ?_
          exact ih x16 x17 hf
        · replace hf := ite_f hf c15
          refine wa_lv (lv' := [(0, .ref (a 0)), (2, .int l2)]) [0, 2] rfl ?_
          exact w_X12_pasts_J50 C ih l2 l1 hf
set_option maxRecDepth 20000 in
theorem c_X12_pasts {l : Launch} {D : va_G} {dT : Nat → ClassId} {a : Nat → Nat} {v : MS} {res : Int32 × MS} (hf : f_X12_pasts v = some res) : CTi l yX12_pasts cX12_pasts 3 (some .int) ({ frames := 3, cells := 0, slots := 0, locals := 70 } : Room) D dT [.ref (a 0)] ([wM dT a v]) ([wM dT a res.2]) res.1 := by
  refine CTi.of (by decide) (Nat.le_of_ble_eq_true rfl) rfl ?_
  intro p e s m args below meth c A C
  unfold f_X12_pasts at hf
  refine wa_aload_n C 0 1 dX12_pasts_0 rfl rfl ?_
  refine wa_get C 4 0 0 1 dX12_pasts_1 rfl iX12 q1450 rfl (Nat.le_of_ble_eq_true rfl) rfl rfl rfl ?_
  refine wa_if_ne C 9 7 dX12_pasts_4 rfl rfl (fun c1 => ?_) (fun c1 => ?_)
  · replace hf := ite_f hf c1
    refine wa_aload_n C 0 10 dX12_pasts_9 rfl rfl ?_
    refine wa_iconst (v := 0) C 11 dX12_pasts_10 rfl rfl ?_
    obtain ⟨q2, hq2, hf⟩ := bind_ex hf
    refine wa_callVAv (b1 := 0) (q1 := 0) (ci := 12) (As := [.int (0 : Int32)]) C 14 dX12_pasts_11 rfl kv_X12_343 (c_X12_laysSizes hq2) ⟨rfl, rfl⟩ ⟨Nat.le_of_ble_eq_true rfl, Nat.le_of_ble_eq_true rfl⟩ rfl rfl rfl rfl rfl ⟨Nat.zero_le _, Nat.zero_le _⟩ (Nat.le_of_ble_eq_true rfl) ?_
    refine wa_iconst (v := 0) C 15 dX12_pasts_14 rfl rfl ?_
    refine wa_istore_n (lv' := [(0, .ref (a 0)), (1, .int (0 : Int32))]) C [1, 0] 16 dX12_pasts_15 rfl (Nat.le_of_ble_eq_true rfl) rfl ?_
    refine wa_iconst (v := 0) C 17 dX12_pasts_16 rfl rfl ?_
    refine wa_istore_n (lv' := [(0, .ref (a 0)), (1, .int (0 : Int32)), (2, .int (0 : Int32))]) C [1, 2, 0] 18 dX12_pasts_17 rfl (Nat.le_of_ble_eq_true rfl) rfl ?_
    exact w_X12_pasts_L18 C FUEL (0 : Int32) (0 : Int32) hf
  · replace hf := ite_t hf c1
    refine wa_iconst (v := 1) C 8 dX12_pasts_7 rfl rfl ?_
    cases hf
    exact wa_iret C dX12_pasts_8 rfl rfl
def f_X12_toldOnes_J99 (k4 : Int32 → Int32 → Option (Int32)) (z0 : MS) (l1 : Int32) (l2 : Int32) (l3 : Int32) : Option (Int32) := (if l3 = 0 then bnd (l2 + 1) (fun x5 => k4 l1 x5) else bnd (l2 + 1) (fun x6 => k4 l2 x6))
def f_X12_toldOnes_L38 (k4 : Int32 → Int32 → Option (Int32)) (l1 : Int32) (l2 : Int32) (z0 : MS) : Nat → Int32 → Int32 → Option (Int32)
  | 0, _, _ => none
  | n + 1, l3, l4 => (if (z0.1 2) ≤ l4 then f_X12_toldOnes_J99 (k4) z0 l1 l2 l3 else (if l3 = 0 then f_X12_toldOnes_J99 (k4) z0 l1 l2 l3 else grd (vi ((2 : Int32) * l4) 24) ((if ((l2 >>> ((z0.2.2 1 (((2 : Int32) * l4)).toNatClampNeg) &&& 31)) &&& (1 : Int32)) = (1 : Int32) then bnd (l4 + 1) (fun x10 => f_X12_toldOnes_L38 k4 l1 l2 z0 n (1 : Int32) x10) else grd (vi (((2 : Int32) * l4) + (1 : Int32)) 24) ((if ((l2 >>> ((z0.2.2 1 ((((2 : Int32) * l4) + (1 : Int32))).toNatClampNeg) &&& 31)) &&& (1 : Int32)) = (1 : Int32) then bnd (l4 + 1) (fun x14 => f_X12_toldOnes_L38 k4 l1 l2 z0 n (1 : Int32) x14) else bnd (l4 + 1) (fun x13 => f_X12_toldOnes_L38 k4 l1 l2 z0 n (0 : Int32) x13)))))))
def f_X12_toldOnes_L4 (z0 : MS) : Nat → Int32 → Int32 → Option (Int32)
  | 0, _, _ => none
  | n + 1, l1, l2 => (if ((1 : Int32) <<< ((z0.1 1) &&& 31)) ≤ l2 then some (l1) else (if l1 = (-1 : Int32) then f_X12_toldOnes_L38 (f_X12_toldOnes_L4 z0 n) l1 l2 z0 FUEL (1 : Int32) (0 : Int32) else (f_X12_bits l2).bind (fun q15 => (f_X12_bits l1).bind (fun q16 => (if q15 < q16 then f_X12_toldOnes_L38 (f_X12_toldOnes_L4 z0 n) l1 l2 z0 FUEL (1 : Int32) (0 : Int32) else bnd (l2 + 1) (fun x18 => f_X12_toldOnes_L4 z0 n l1 x18))))))
def f_X12_toldOnes (v : MS) : Option (Int32) := f_X12_toldOnes_L4 v FUEL (-1 : Int32) (0 : Int32)
set_option maxRecDepth 20000 in
theorem w_X12_toldOnes_J99 {p : Program} {l : Launch} {e : Env} {s : State} {m : MethodId} {args : Array Value} {below : List Frame} {meth : Method} {c : Code} {D : va_G} {A : Nat → Prop} {dT : Nat → ClassId} {a : Nat → Nat} {res : Int32} {z0 : MS} (C : Cx p s m args meth c cX12_toldOnes 5 RX12 (some .int) D A dT) {k4 : Int32 → Int32 → Option (Int32)} (hk4 : ∀ (l1 : Int32) (l2 : Int32), k4 l1 l2 = some res → WA p l e ({ frames := 1, cells := 0, slots := 0, locals := 22 } : Room) s m args below meth c (MQ below (QI D dT A ([wM dT a z0]) res) args s 0 0 A) D A 0 0 5 4 ([wM dT a z0]) [(0, .ref (a 0)), (1, .int l1), (2, .int l2)] []) : ∀ (l1 : Int32) (l2 : Int32) (l3 : Int32), f_X12_toldOnes_J99 k4 z0 l1 l2 l3 = some res → WA p l e ({ frames := 1, cells := 0, slots := 0, locals := 22 } : Room) s m args below meth c (MQ below (QI D dT A ([wM dT a z0]) res) args s 0 0 A) D A 0 0 5 99 ([wM dT a z0]) [(0, .ref (a 0)), (1, .int l1), (2, .int l2), (3, .int l3)] [] := by
  intro l1 l2 l3 hf
  unfold f_X12_toldOnes_J99 at hf
  refine wa_iload_n C 3 100 dX12_toldOnes_99 rfl rfl ?_
  refine wa_if_eq C 105 103 dX12_toldOnes_100 rfl rfl (fun c4 => ?_) (fun c4 => ?_)
  · replace hf := ite_t hf c4
    obtain ⟨x5, ex5, hf⟩ := bnd_ex hf
    refine wa_iinc (v := x5) (lv' := [(0, .ref (a 0)), (1, .int l1), (2, .int x5), (3, .int l3)]) C 2 [1, 2, 0, 3] 108 dX12_toldOnes_105 rfl rfl (by rw [ex5]; rfl) (Nat.le_of_ble_eq_true rfl) rfl ?_
    refine wa_goto C 4 dX12_toldOnes_108 rfl ?_
    refine wa_lv (lv' := [(0, .ref (a 0)), (1, .int l1), (2, .int x5)]) [0, 1, 2] rfl ?_
    exact hk4 l1 x5 hf
  · replace hf := ite_f hf c4
    refine wa_iload_n C 2 104 dX12_toldOnes_103 rfl rfl ?_
    refine wa_istore_n (lv' := [(0, .ref (a 0)), (1, .int l2), (2, .int l2), (3, .int l3)]) C [1, 0, 2, 3] 105 dX12_toldOnes_104 rfl (Nat.le_of_ble_eq_true rfl) rfl ?_
    obtain ⟨x6, ex6, hf⟩ := bnd_ex hf
    refine wa_iinc (v := x6) (lv' := [(0, .ref (a 0)), (1, .int l2), (2, .int x6), (3, .int l3)]) C 2 [1, 2, 0, 3] 108 dX12_toldOnes_105 rfl rfl (by rw [ex6]; rfl) (Nat.le_of_ble_eq_true rfl) rfl ?_
    refine wa_goto C 4 dX12_toldOnes_108 rfl ?_
    refine wa_lv (lv' := [(0, .ref (a 0)), (1, .int l2), (2, .int x6)]) [0, 1, 2] rfl ?_
    exact hk4 l2 x6 hf
set_option maxRecDepth 20000 in
theorem w_X12_toldOnes_L38 {p : Program} {l : Launch} {e : Env} {s : State} {m : MethodId} {args : Array Value} {below : List Frame} {meth : Method} {c : Code} {D : va_G} {A : Nat → Prop} {dT : Nat → ClassId} {a : Nat → Nat} {res : Int32} {l1 : Int32} {l2 : Int32} {z0 : MS} (C : Cx p s m args meth c cX12_toldOnes 5 RX12 (some .int) D A dT) {k4 : Int32 → Int32 → Option (Int32)} (hk4 : ∀ (l1 : Int32) (l2 : Int32), k4 l1 l2 = some res → WA p l e ({ frames := 1, cells := 0, slots := 0, locals := 22 } : Room) s m args below meth c (MQ below (QI D dT A ([wM dT a z0]) res) args s 0 0 A) D A 0 0 5 4 ([wM dT a z0]) [(0, .ref (a 0)), (1, .int l1), (2, .int l2)] []) : ∀ (n : Nat) (l3 : Int32) (l4 : Int32), f_X12_toldOnes_L38 k4 l1 l2 z0 n l3 l4 = some res → WA p l e ({ frames := 1, cells := 0, slots := 0, locals := 22 } : Room) s m args below meth c (MQ below (QI D dT A ([wM dT a z0]) res) args s 0 0 A) D A 0 0 5 38 ([wM dT a z0]) [(0, .ref (a 0)), (1, .int l1), (2, .int l2), (3, .int l3), (4, .int l4)] [] := by
  intro n
  induction n with
  | zero => intro l3 l4 hf; cases hf
  | succ n ih =>
    intro l3 l4 hf
    unfold f_X12_toldOnes_L38 at hf
    refine wa_iload C 4 40 dX12_toldOnes_38 rfl rfl ?_
    refine wa_aload_n C 0 41 dX12_toldOnes_40 rfl rfl ?_
    refine wa_get C 44 0 0 2 dX12_toldOnes_41 rfl iX12 q1451 rfl (Nat.le_of_ble_eq_true rfl) rfl rfl rfl ?_
    refine wa_icmp_ge C 99 47 dX12_toldOnes_44 rfl rfl (fun c3 => ?_) (fun c3 => ?_)
    · replace hf := ite_t hf c3
      refine wa_lv (lv' := [(0, .ref (a 0)), (1, .int l1), (2, .int l2), (3, .int l3)]) [0, 1, 2, 3] rfl ?_
      exact w_X12_toldOnes_J99 C hk4 l1 l2 l3 hf
    · replace hf := ite_f hf c3
      refine wa_iload_n C 3 48 dX12_toldOnes_47 rfl rfl ?_
      refine wa_if_eq C 99 51 dX12_toldOnes_48 rfl rfl (fun c7 => ?_) (fun c7 => ?_)
      · replace hf := ite_t hf c7
        refine wa_lv (lv' := [(0, .ref (a 0)), (1, .int l1), (2, .int l2), (3, .int l3)]) [0, 1, 2, 3] rfl ?_
        exact w_X12_toldOnes_J99 C hk4 l1 l2 l3 hf
      · replace hf := ite_f hf c7
        refine wa_iload_n C 2 52 dX12_toldOnes_51 rfl rfl ?_
        refine wa_aload_n C 0 53 dX12_toldOnes_52 rfl rfl ?_
        refine wa_get C 56 0 0 5 dX12_toldOnes_53 rfl iX12 q1454 rfl (Nat.le_of_ble_eq_true rfl) rfl rfl rfl ?_
        refine wa_iconst (v := 2) C 57 dX12_toldOnes_56 rfl rfl ?_
        refine wa_iload C 4 59 dX12_toldOnes_57 rfl rfl ?_
        refine wa_imul C 60 dX12_toldOnes_59 rfl ?_
        obtain ⟨g8, hf⟩ := grd_ex hf
        refine wa_iald C 61 0 1 dX12_toldOnes_60 rfl rfl rfl (vi_in g8) ?_
        refine wa_ishr C 62 dX12_toldOnes_61 rfl ?_
        refine wa_iconst (v := 1) C 63 dX12_toldOnes_62 rfl rfl ?_
        refine wa_iand C 64 dX12_toldOnes_63 rfl ?_
        refine wa_iconst (v := 1) C 65 dX12_toldOnes_64 rfl rfl ?_
        refine wa_icmp_eq C 87 68 dX12_toldOnes_65 rfl rfl (fun c9 => ?_) (fun c9 => ?_)
        · replace hf := ite_t hf c9
          refine wa_iconst (v := 1) C 88 dX12_toldOnes_87 rfl rfl ?_
          refine wa_goto C 92 dX12_toldOnes_88 rfl ?_
          refine wa_istore_n (lv' := [(0, .ref (a 0)), (1, .int l1), (2, .int l2), (3, .int (1 : Int32)), (4, .int l4)]) C [1, 2, 3, 0, 4] 93 dX12_toldOnes_92 rfl (Nat.le_of_ble_eq_true rfl) rfl ?_
          obtain ⟨x10, ex10, hf⟩ := bnd_ex hf
          refine wa_iinc (v := x10) (lv' := [(0, .ref (a 0)), (1, .int l1), (2, .int l2), (3, .int (1 : Int32)), (4, .int x10)]) C 4 [1, 2, 3, 4, 0] 96 dX12_toldOnes_93 rfl rfl (by rw [ex10]; rfl) (Nat.le_of_ble_eq_true rfl) rfl ?_
          refine wa_goto C 38 dX12_toldOnes_96 rfl ?_
          exact ih (1 : Int32) x10 hf
        · replace hf := ite_f hf c9
          refine wa_iload_n C 2 69 dX12_toldOnes_68 rfl rfl ?_
          refine wa_aload_n C 0 70 dX12_toldOnes_69 rfl rfl ?_
          refine wa_get C 73 0 0 5 dX12_toldOnes_70 rfl iX12 q1454 rfl (Nat.le_of_ble_eq_true rfl) rfl rfl rfl ?_
          refine wa_iconst (v := 2) C 74 dX12_toldOnes_73 rfl rfl ?_
          refine wa_iload C 4 76 dX12_toldOnes_74 rfl rfl ?_
          refine wa_imul C 77 dX12_toldOnes_76 rfl ?_
          refine wa_iconst (v := 1) C 78 dX12_toldOnes_77 rfl rfl ?_
          refine wa_iadd C 79 dX12_toldOnes_78 rfl ?_
          obtain ⟨g11, hf⟩ := grd_ex hf
          refine wa_iald C 80 0 1 dX12_toldOnes_79 rfl rfl rfl (vi_in g11) ?_
          refine wa_ishr C 81 dX12_toldOnes_80 rfl ?_
          refine wa_iconst (v := 1) C 82 dX12_toldOnes_81 rfl rfl ?_
          refine wa_iand C 83 dX12_toldOnes_82 rfl ?_
          refine wa_iconst (v := 1) C 84 dX12_toldOnes_83 rfl rfl ?_
          refine wa_icmp_ne C 91 87 dX12_toldOnes_84 rfl rfl (fun c12 => ?_) (fun c12 => ?_)
          · replace hf := ite_f hf c12
            refine wa_iconst (v := 0) C 92 dX12_toldOnes_91 rfl rfl ?_
            refine wa_istore_n (lv' := [(0, .ref (a 0)), (1, .int l1), (2, .int l2), (3, .int (0 : Int32)), (4, .int l4)]) C [1, 2, 3, 0, 4] 93 dX12_toldOnes_92 rfl (Nat.le_of_ble_eq_true rfl) rfl ?_
            obtain ⟨x13, ex13, hf⟩ := bnd_ex hf
            refine wa_iinc (v := x13) (lv' := [(0, .ref (a 0)), (1, .int l1), (2, .int l2), (3, .int (0 : Int32)), (4, .int x13)]) C 4 [1, 2, 3, 4, 0] 96 dX12_toldOnes_93 rfl rfl (by rw [ex13]; rfl) (Nat.le_of_ble_eq_true rfl) rfl ?_
            refine wa_goto C 38 dX12_toldOnes_96 rfl ?_
            exact ih (0 : Int32) x13 hf
          · replace hf := ite_t hf c12
            refine wa_iconst (v := 1) C 88 dX12_toldOnes_87 rfl rfl ?_
            refine wa_goto C 92 dX12_toldOnes_88 rfl ?_
            refine wa_istore_n (lv' := [(0, .ref (a 0)), (1, .int l1), (2, .int l2), (3, .int (1 : Int32)), (4, .int l4)]) C [1, 2, 3, 0, 4] 93 dX12_toldOnes_92 rfl (Nat.le_of_ble_eq_true rfl) rfl ?_
            obtain ⟨x14, ex14, hf⟩ := bnd_ex hf
            refine wa_iinc (v := x14) (lv' := [(0, .ref (a 0)), (1, .int l1), (2, .int l2), (3, .int (1 : Int32)), (4, .int x14)]) C 4 [1, 2, 3, 4, 0] 96 dX12_toldOnes_93 rfl rfl (by rw [ex14]; rfl) (Nat.le_of_ble_eq_true rfl) rfl ?_
            refine wa_goto C 38 dX12_toldOnes_96 rfl ?_
            exact ih (1 : Int32) x14 hf
set_option maxRecDepth 20000 in
theorem w_X12_toldOnes_L4 {p : Program} {l : Launch} {e : Env} {s : State} {m : MethodId} {args : Array Value} {below : List Frame} {meth : Method} {c : Code} {D : va_G} {A : Nat → Prop} {dT : Nat → ClassId} {a : Nat → Nat} {res : Int32} {z0 : MS} (C : Cx p s m args meth c cX12_toldOnes 5 RX12 (some .int) D A dT) : ∀ (n : Nat) (l1 : Int32) (l2 : Int32), f_X12_toldOnes_L4 z0 n l1 l2 = some res → WA p l e ({ frames := 1, cells := 0, slots := 0, locals := 22 } : Room) s m args below meth c (MQ below (QI D dT A ([wM dT a z0]) res) args s 0 0 A) D A 0 0 5 4 ([wM dT a z0]) [(0, .ref (a 0)), (1, .int l1), (2, .int l2)] [] := by
  intro n
  induction n with
  | zero => intro l1 l2 hf; cases hf
  | succ n ih =>
    intro l1 l2 hf
    unfold f_X12_toldOnes_L4 at hf
    refine wa_iload_n C 2 5 dX12_toldOnes_4 rfl rfl ?_
    refine wa_iconst (v := 1) C 6 dX12_toldOnes_5 rfl rfl ?_
    refine wa_aload_n C 0 7 dX12_toldOnes_6 rfl rfl ?_
    refine wa_get C 10 0 0 1 dX12_toldOnes_7 rfl iX12 q1450 rfl (Nat.le_of_ble_eq_true rfl) rfl rfl rfl ?_
    refine wa_ishl C 11 dX12_toldOnes_10 rfl ?_
    refine wa_icmp_ge C 111 14 dX12_toldOnes_11 rfl rfl (fun c1 => ?_) (fun c1 => ?_)
    · replace hf := ite_t hf c1
      refine wa_iload_n C 1 112 dX12_toldOnes_111 rfl rfl ?_
      cases hf
      exact wa_iret C dX12_toldOnes_112 rfl rfl
    · replace hf := ite_f hf c1
      refine wa_iload_n C 1 15 dX12_toldOnes_14 rfl rfl ?_
      refine wa_iconst (v := (-1)) C 16 dX12_toldOnes_15 rfl rfl ?_
      refine wa_icmp_eq C 33 19 dX12_toldOnes_16 rfl rfl (fun c2 => ?_) (fun c2 => ?_)
      · replace hf := ite_t hf c2
        refine wa_iconst (v := 1) C 34 dX12_toldOnes_33 rfl rfl ?_
        refine wa_istore_n (lv' := [(0, .ref (a 0)), (1, .int l1), (2, .int l2), (3, .int (1 : Int32))]) C [1, 2, 3, 0] 35 dX12_toldOnes_34 rfl (Nat.le_of_ble_eq_true rfl) rfl ?_
        refine wa_iconst (v := 0) C 36 dX12_toldOnes_35 rfl rfl ?_
        refine wa_istore (lv' := [(0, .ref (a 0)), (1, .int l1), (2, .int l2), (3, .int (1 : Int32)), (4, .int (0 : Int32))]) C [1, 2, 3, 4, 0] 38 dX12_toldOnes_36 rfl (Nat.le_of_ble_eq_true rfl) rfl ?_
        exact w_X12_toldOnes_L38 C ih FUEL (1 : Int32) (0 : Int32) hf
      · replace hf := ite_f hf c2
        refine wa_iload_n C 2 20 dX12_toldOnes_19 rfl rfl ?_
        obtain ⟨q15, hq15, hf⟩ := bind_ex hf
        refine wa_callS0i (As := [.int l2]) C 23 dX12_toldOnes_20 rfl ks_X12_291 (c_X12_bits hq15) ⟨rfl, rfl⟩ ⟨Nat.le_of_ble_eq_true rfl, Nat.le_of_ble_eq_true rfl⟩ rfl rfl ⟨Nat.zero_le _, Nat.zero_le _⟩ (Nat.le_of_ble_eq_true rfl) ?_
        refine wa_iload_n C 1 24 dX12_toldOnes_23 rfl rfl ?_
        obtain ⟨q16, hq16, hf⟩ := bind_ex hf
        refine wa_callS0i (As := [.int l1]) C 27 dX12_toldOnes_24 rfl ks_X12_291 (c_X12_bits hq16) ⟨rfl, rfl⟩ ⟨Nat.le_of_ble_eq_true rfl, Nat.le_of_ble_eq_true rfl⟩ rfl rfl ⟨Nat.zero_le _, Nat.zero_le _⟩ (Nat.le_of_ble_eq_true rfl) ?_
        refine wa_icmp_lt C 33 30 dX12_toldOnes_27 rfl rfl (fun c17 => ?_) (fun c17 => ?_)
        · replace hf := ite_t hf c17
          refine wa_iconst (v := 1) C 34 dX12_toldOnes_33 rfl rfl ?_
          refine wa_istore_n (lv' := [(0, .ref (a 0)), (1, .int l1), (2, .int l2), (3, .int (1 : Int32))]) C [1, 2, 3, 0] 35 dX12_toldOnes_34 rfl (Nat.le_of_ble_eq_true rfl) rfl ?_
          refine wa_iconst (v := 0) C 36 dX12_toldOnes_35 rfl rfl ?_
          refine wa_istore (lv' := [(0, .ref (a 0)), (1, .int l1), (2, .int l2), (3, .int (1 : Int32)), (4, .int (0 : Int32))]) C [1, 2, 3, 4, 0] 38 dX12_toldOnes_36 rfl (Nat.le_of_ble_eq_true rfl) rfl ?_
          exact w_X12_toldOnes_L38 C ih FUEL (1 : Int32) (0 : Int32) hf
        · replace hf := ite_f hf c17
          refine wa_goto C 105 dX12_toldOnes_30 rfl ?_
          obtain ⟨x18, ex18, hf⟩ := bnd_ex hf
          refine wa_iinc (v := x18) (lv' := [(0, .ref (a 0)), (1, .int l1), (2, .int x18)]) C 2 [1, 2, 0] 108 dX12_toldOnes_105 rfl rfl (by rw [ex18]; rfl) (Nat.le_of_ble_eq_true rfl) rfl ?_
          refine wa_goto C 4 dX12_toldOnes_108 rfl ?_
          exact ih l1 x18 hf
set_option maxRecDepth 20000 in
theorem c_X12_toldOnes {l : Launch} {D : va_G} {dT : Nat → ClassId} {a : Nat → Nat} {v : MS} {res : Int32} (hf : f_X12_toldOnes v = some res) : CTi l yX12_toldOnes cX12_toldOnes 5 (some .int) ({ frames := 1, cells := 0, slots := 0, locals := 22 } : Room) D dT [.ref (a 0)] ([wM dT a v]) ([wM dT a v]) res := by
  refine CTi.of (by decide) (Nat.le_of_ble_eq_true rfl) rfl ?_
  intro p e s m args below meth c A C
  unfold f_X12_toldOnes at hf
  refine wa_iconst (v := (-1)) C 1 dX12_toldOnes_0 rfl rfl ?_
  refine wa_istore_n (lv' := [(0, .ref (a 0)), (1, .int (-1 : Int32))]) C [1, 0] 2 dX12_toldOnes_1 rfl (Nat.le_of_ble_eq_true rfl) rfl ?_
  refine wa_iconst (v := 0) C 3 dX12_toldOnes_2 rfl rfl ?_
  refine wa_istore_n (lv' := [(0, .ref (a 0)), (1, .int (-1 : Int32)), (2, .int (0 : Int32))]) C [1, 2, 0] 4 dX12_toldOnes_3 rfl (Nat.le_of_ble_eq_true rfl) rfl ?_
  exact w_X12_toldOnes_L4 C FUEL (-1 : Int32) (0 : Int32) hf
def f_X12_greatest (v : MS) (p0 : Int32) : Option (Int32 × MS) := (f_X12_laysSizes v p0).bind (fun q1 => grd (vi (0 : Int32) 12) (some ((q1.2.2 15 ((0 : Int32)).toNatClampNeg), q1)))
set_option maxRecDepth 20000 in
theorem c_X12_greatest {l : Launch} {D : va_G} {dT : Nat → ClassId} {a : Nat → Nat} {v : MS} {p0 : Int32} {res : Int32 × MS} (hf : f_X12_greatest v p0 = some res) : CTi l yX12_greatest cX12_greatest 2 (some .int) ({ frames := 3, cells := 0, slots := 0, locals := 70 } : Room) D dT [.ref (a 0), .int p0] ([wM dT a v]) ([wM dT a res.2]) res.1 := by
  refine CTi.of (by decide) (Nat.le_of_ble_eq_true rfl) rfl ?_
  intro p e s m args below meth c A C
  unfold f_X12_greatest at hf
  refine wa_aload_n C 0 1 dX12_greatest_0 rfl rfl ?_
  refine wa_iload_n C 1 2 dX12_greatest_1 rfl rfl ?_
  obtain ⟨q1, hq1, hf⟩ := bind_ex hf
  refine wa_callVAv (b1 := 0) (q1 := 0) (ci := 12) (As := [.int p0]) C 5 dX12_greatest_2 rfl kv_X12_343 (c_X12_laysSizes hq1) ⟨rfl, rfl⟩ ⟨Nat.le_of_ble_eq_true rfl, Nat.le_of_ble_eq_true rfl⟩ rfl rfl rfl rfl rfl ⟨Nat.zero_le _, Nat.zero_le _⟩ (Nat.le_of_ble_eq_true rfl) ?_
  refine wa_aload_n C 0 6 dX12_greatest_5 rfl rfl ?_
  refine wa_get C 9 0 0 43 dX12_greatest_6 rfl iX12 q1492 rfl (Nat.le_of_ble_eq_true rfl) rfl rfl rfl ?_
  refine wa_iconst (v := 0) C 10 dX12_greatest_9 rfl rfl ?_
  obtain ⟨g2, hf⟩ := grd_ex hf
  refine wa_iald C 11 0 15 dX12_greatest_10 rfl rfl rfl (vi_in g2) ?_
  cases hf
  exact wa_iret C dX12_greatest_11 rfl rfl
theorem ks_X12_346 : KS RX12 346 yX12_within cX12_within 3 (some .boolean) 3 := KS.mk q1775 q1776 q13 q1777 ⟨by decide, by decide, by decide +kernel⟩
theorem kv_X12_350 : KV RX12 350 yX12_greatest cX12_greatest 2 (some .int) 1 := KV.mk q1778 q1780 qs72 q13 q1781 ⟨by decide, by decide, by decide +kernel⟩
theorem kv_X12_353 : KV RX12 353 yX12_aloneOnes cX12_aloneOnes 4 (some .int) 1 := KV.mk q1797 q1799 qs76 q13 q1800 ⟨by decide, by decide, by decide +kernel⟩
theorem kv_X12_356 : KV RX12 356 yX12_stairs cX12_stairs 4 (some .int) 1 := KV.mk q1801 q1803 qs77 q13 q1804 ⟨by decide, by decide, by decide +kernel⟩
theorem kv_X12_359 : KV RX12 359 yX12_pasts cX12_pasts 3 (some .int) 0 := KV.mk q1805 q1807 qs78 q13 q1808 ⟨by decide, by decide, by decide +kernel⟩
theorem kv_X12_362 : KV RX12 362 yX12_friendsIn cX12_friendsIn 4 (some .int) 1 := KV.mk q1809 q1811 qs79 q13 q1812 ⟨by decide, by decide, by decide +kernel⟩
theorem kv_X12_365 : KV RX12 365 yX12_toldOnes cX12_toldOnes 5 (some .int) 0 := KV.mk q1813 q1815 qs80 q13 q1816 ⟨by decide, by decide, by decide +kernel⟩
def f_X12_count (v : MS) (p0 : Int32) : Option (Int32 × MS) := bnd (upd v.1 0 (0 : Int32), v.2) (fun y1 => (f_X12_within p0 (0 : Int32) (16 : Int32)).bind (fun q2 => (f_X12_right y1 q2 (1 : Int32)).bind (fun q3 => (if q3.1 = 0 then some ((0 : Int32), q3.2) else (if p0 = 0 then some ((q3.2.1 1), q3.2) else (if p0 = 1 then grd (vi (1 : Int32) 172) (some ((q3.2.2.2 10 ((1 : Int32)).toNatClampNeg), q3.2)) else (if p0 = 2 then grd (vi (0 : Int32) 172) (some ((q3.2.2.2 10 ((0 : Int32)).toNatClampNeg), q3.2)) else (if p0 = 3 then (f_X12_greatest q3.2 (0 : Int32)).bind (fun q11 => some (q11.1, q11.2)) else (if p0 = 4 then (f_X12_aloneOnes q3.2 (0 : Int32)).bind (fun q13 => some (q13, q3.2)) else (if p0 = 5 then (f_X12_stairs q3.2 (0 : Int32)).bind (fun q15 => some (q15.1, q15.2)) else (if p0 = 6 then (f_X12_pasts q3.2).bind (fun q17 => some (q17.1, q17.2)) else (if p0 = 7 then (f_X12_pasts q3.2).bind (fun q19 => (if q19.1 = 0 then some ((1 : Int32), q19.2) else some ((0 : Int32), q19.2))) else (if p0 = 8 then some ((q3.2.1 2), q3.2) else (if p0 = 9 then (f_X12_friendsIn q3.2 (0 : Int32)).bind (fun q23 => some (q23, q3.2)) else (if p0 = 10 then (f_X12_toldOnes q3.2).bind (fun q25 => some (q25, q3.2)) else (if p0 = 11 then some ((q3.2.1 36), q3.2) else (if p0 = 12 then some ((q3.2.1 48), q3.2) else (if p0 = 13 then some ((q3.2.1 8), q3.2) else grd (vi (p0 - (14 : Int32)) 3) (some ((q3.2.2.2 4 ((p0 - (14 : Int32))).toNatClampNeg), q3.2))))))))))))))))))))
set_option maxRecDepth 20000 in
theorem c_X12_count {l : Launch} {D : va_G} {dT : Nat → ClassId} {a : Nat → Nat} {v : MS} {p0 : Int32} {res : Int32 × MS} (hf : f_X12_count v p0 = some res) : CTi l yX12_count cX12_count 2 (some .int) ({ frames := 4, cells := 0, slots := 0, locals := 93 } : Room) D dT [.ref (a 0), .int p0] ([wM dT a v]) ([wM dT a res.2]) res.1 := by
  refine CTi.of (by decide) (Nat.le_of_ble_eq_true rfl) rfl ?_
  intro p e s m args below meth c A C
  unfold f_X12_count at hf
  refine wa_aload_n C 0 1 dX12_count_0 rfl rfl ?_
  refine wa_iconst (v := 0) C 2 dX12_count_1 rfl rfl ?_
  obtain ⟨y1, ey1, hf⟩ := bnd_ex hf
  refine wa_put (ws' := [wM dT a y1]) C 5 0 0 0 tyX12 dX12_count_2 rfl iX12 tyX12_ok nmX12 q1449 rfl (Nat.le_of_ble_eq_true rfl) rfl rfl rfl rfl rfl (Nat.le_of_ble_eq_true rfl) (by rw [ey1]; rfl) ?_
  refine wa_aload_n C 0 6 dX12_count_5 rfl rfl ?_
  refine wa_iload_n C 1 7 dX12_count_6 rfl rfl ?_
  refine wa_iconst (v := 0) C 8 dX12_count_7 rfl rfl ?_
  refine wa_bipush (v := 16) C 10 dX12_count_8 rfl rfl ?_
  obtain ⟨q2, hq2, hf⟩ := bind_ex hf
  refine wa_callS0i (As := [.int p0, .int (0 : Int32), .int (16 : Int32)]) C 13 dX12_count_10 rfl ks_X12_346 (c_X12_within hq2) ⟨rfl, rfl⟩ ⟨Nat.le_of_ble_eq_true rfl, Nat.le_of_ble_eq_true rfl⟩ rfl rfl ⟨Nat.zero_le _, Nat.zero_le _⟩ (Nat.le_of_ble_eq_true rfl) ?_
  refine wa_iconst (v := 1) C 14 dX12_count_13 rfl rfl ?_
  obtain ⟨q3, hq3, hf⟩ := bind_ex hf
  refine wa_callVAi (b1 := 0) (q1 := 0) (ci := 12) (As := [.int q2, .int (1 : Int32)]) C 17 dX12_count_14 rfl kv_X12_257 (c_X12_right hq3) ⟨rfl, rfl⟩ ⟨Nat.le_of_ble_eq_true rfl, Nat.le_of_ble_eq_true rfl⟩ rfl rfl rfl rfl rfl ⟨Nat.zero_le _, Nat.zero_le _⟩ (Nat.le_of_ble_eq_true rfl) ?_
  refine wa_if_ne C 22 20 dX12_count_17 rfl rfl (fun c4 => ?_) (fun c4 => ?_)
  · replace hf := ite_f hf c4
    refine wa_iload_n C 1 23 dX12_count_22 rfl rfl ?_
    by_cases c5 : p0 = 0
    · replace hf := ite_t hf c5
      refine wa_ts C 0 (69) 92 dX12_count_23 c5 (by decide) (by decide) rfl rfl ?_
      refine wa_aload_n C 0 93 dX12_count_92 rfl rfl ?_
      refine wa_get C 96 0 0 1 dX12_count_93 rfl iX12 q1450 rfl (Nat.le_of_ble_eq_true rfl) rfl rfl rfl ?_
      cases hf
      exact wa_iret C dX12_count_96 rfl rfl
    · replace hf := ite_f hf c5
      by_cases c6 : p0 = 1
      · replace hf := ite_t hf c6
        refine wa_ts C 1 (74) 97 dX12_count_23 c6 (by decide) (by decide) rfl rfl ?_
        refine wa_aload_n C 0 98 dX12_count_97 rfl rfl ?_
        refine wa_get C 101 0 0 34 dX12_count_98 rfl iX12 q1483 rfl (Nat.le_of_ble_eq_true rfl) rfl rfl rfl ?_
        refine wa_iconst (v := 1) C 102 dX12_count_101 rfl rfl ?_
        obtain ⟨g7, hf⟩ := grd_ex hf
        refine wa_iald C 103 0 10 dX12_count_102 rfl rfl rfl (vi_in g7) ?_
        cases hf
        exact wa_iret C dX12_count_103 rfl rfl
      · replace hf := ite_f hf c6
        by_cases c8 : p0 = 2
        · replace hf := ite_t hf c8
          refine wa_ts C 2 (81) 104 dX12_count_23 c8 (by decide) (by decide) rfl rfl ?_
          refine wa_aload_n C 0 105 dX12_count_104 rfl rfl ?_
          refine wa_get C 108 0 0 34 dX12_count_105 rfl iX12 q1483 rfl (Nat.le_of_ble_eq_true rfl) rfl rfl rfl ?_
          refine wa_iconst (v := 0) C 109 dX12_count_108 rfl rfl ?_
          obtain ⟨g9, hf⟩ := grd_ex hf
          refine wa_iald C 110 0 10 dX12_count_109 rfl rfl rfl (vi_in g9) ?_
          cases hf
          exact wa_iret C dX12_count_110 rfl rfl
        · replace hf := ite_f hf c8
          by_cases c10 : p0 = 3
          · replace hf := ite_t hf c10
            refine wa_ts C 3 (88) 111 dX12_count_23 c10 (by decide) (by decide) rfl rfl ?_
            refine wa_aload_n C 0 112 dX12_count_111 rfl rfl ?_
            refine wa_iconst (v := 0) C 113 dX12_count_112 rfl rfl ?_
            obtain ⟨q11, hq11, hf⟩ := bind_ex hf
            refine wa_callVAi (b1 := 0) (q1 := 0) (ci := 12) (As := [.int (0 : Int32)]) C 116 dX12_count_113 rfl kv_X12_350 (c_X12_greatest hq11) ⟨rfl, rfl⟩ ⟨Nat.le_of_ble_eq_true rfl, Nat.le_of_ble_eq_true rfl⟩ rfl rfl rfl rfl rfl ⟨Nat.zero_le _, Nat.zero_le _⟩ (Nat.le_of_ble_eq_true rfl) ?_
            cases hf
            exact wa_iret C dX12_count_116 rfl rfl
          · replace hf := ite_f hf c10
            by_cases c12 : p0 = 4
            · replace hf := ite_t hf c12
              refine wa_ts C 4 (94) 117 dX12_count_23 c12 (by decide) (by decide) rfl rfl ?_
              refine wa_aload_n C 0 118 dX12_count_117 rfl rfl ?_
              refine wa_iconst (v := 0) C 119 dX12_count_118 rfl rfl ?_
              obtain ⟨q13, hq13, hf⟩ := bind_ex hf
              refine wa_callVAi (b1 := 0) (q1 := 0) (ci := 12) (As := [.int (0 : Int32)]) C 122 dX12_count_119 rfl kv_X12_353 (c_X12_aloneOnes hq13) ⟨rfl, rfl⟩ ⟨Nat.le_of_ble_eq_true rfl, Nat.le_of_ble_eq_true rfl⟩ rfl rfl rfl rfl rfl ⟨Nat.zero_le _, Nat.zero_le _⟩ (Nat.le_of_ble_eq_true rfl) ?_
              cases hf
              exact wa_iret C dX12_count_122 rfl rfl
            · replace hf := ite_f hf c12
              by_cases c14 : p0 = 5
              · replace hf := ite_t hf c14
                refine wa_ts C 5 (100) 123 dX12_count_23 c14 (by decide) (by decide) rfl rfl ?_
                refine wa_aload_n C 0 124 dX12_count_123 rfl rfl ?_
                refine wa_iconst (v := 0) C 125 dX12_count_124 rfl rfl ?_
                obtain ⟨q15, hq15, hf⟩ := bind_ex hf
                refine wa_callVAi (b1 := 0) (q1 := 0) (ci := 12) (As := [.int (0 : Int32)]) C 128 dX12_count_125 rfl kv_X12_356 (c_X12_stairs hq15) ⟨rfl, rfl⟩ ⟨Nat.le_of_ble_eq_true rfl, Nat.le_of_ble_eq_true rfl⟩ rfl rfl rfl rfl rfl ⟨Nat.zero_le _, Nat.zero_le _⟩ (Nat.le_of_ble_eq_true rfl) ?_
                cases hf
                exact wa_iret C dX12_count_128 rfl rfl
              · replace hf := ite_f hf c14
                by_cases c16 : p0 = 6
                · replace hf := ite_t hf c16
                  refine wa_ts C 6 (106) 129 dX12_count_23 c16 (by decide) (by decide) rfl rfl ?_
                  refine wa_aload_n C 0 130 dX12_count_129 rfl rfl ?_
                  obtain ⟨q17, hq17, hf⟩ := bind_ex hf
                  refine wa_callVAi (b1 := 0) (q1 := 0) (ci := 12) (As := []) C 133 dX12_count_130 rfl kv_X12_359 (c_X12_pasts hq17) ⟨rfl, rfl⟩ ⟨Nat.le_of_ble_eq_true rfl, Nat.le_of_ble_eq_true rfl⟩ rfl rfl rfl rfl rfl ⟨Nat.zero_le _, Nat.zero_le _⟩ (Nat.le_of_ble_eq_true rfl) ?_
                  cases hf
                  exact wa_iret C dX12_count_133 rfl rfl
                · replace hf := ite_f hf c16
                  by_cases c18 : p0 = 7
                  · replace hf := ite_t hf c18
                    refine wa_ts C 7 (111) 134 dX12_count_23 c18 (by decide) (by decide) rfl rfl ?_
                    refine wa_aload_n C 0 135 dX12_count_134 rfl rfl ?_
                    obtain ⟨q19, hq19, hf⟩ := bind_ex hf
                    refine wa_callVAi (b1 := 0) (q1 := 0) (ci := 12) (As := []) C 138 dX12_count_135 rfl kv_X12_359 (c_X12_pasts hq19) ⟨rfl, rfl⟩ ⟨Nat.le_of_ble_eq_true rfl, Nat.le_of_ble_eq_true rfl⟩ rfl rfl rfl rfl rfl ⟨Nat.zero_le _, Nat.zero_le _⟩ (Nat.le_of_ble_eq_true rfl) ?_
                    refine wa_if_ne C 145 141 dX12_count_138 rfl rfl (fun c20 => ?_) (fun c20 => ?_)
                    · replace hf := ite_f hf c20
                      refine wa_iconst (v := 0) C 146 dX12_count_145 rfl rfl ?_
                      cases hf
                      exact wa_iret C dX12_count_146 rfl rfl
                    · replace hf := ite_t hf c20
                      refine wa_iconst (v := 1) C 142 dX12_count_141 rfl rfl ?_
                      refine wa_goto C 146 dX12_count_142 rfl ?_
                      cases hf
                      exact wa_iret C dX12_count_146 rfl rfl
                  · replace hf := ite_f hf c18
                    by_cases c21 : p0 = 8
                    · replace hf := ite_t hf c21
                      refine wa_ts C 8 (124) 147 dX12_count_23 c21 (by decide) (by decide) rfl rfl ?_
                      refine wa_aload_n C 0 148 dX12_count_147 rfl rfl ?_
                      refine wa_get C 151 0 0 2 dX12_count_148 rfl iX12 q1451 rfl (Nat.le_of_ble_eq_true rfl) rfl rfl rfl ?_
                      cases hf
                      exact wa_iret C dX12_count_151 rfl rfl
                    · replace hf := ite_f hf c21
                      by_cases c22 : p0 = 9
                      · replace hf := ite_t hf c22
                        refine wa_ts C 9 (129) 152 dX12_count_23 c22 (by decide) (by decide) rfl rfl ?_
                        refine wa_aload_n C 0 153 dX12_count_152 rfl rfl ?_
                        refine wa_iconst (v := 0) C 154 dX12_count_153 rfl rfl ?_
                        obtain ⟨q23, hq23, hf⟩ := bind_ex hf
                        refine wa_callVAi (b1 := 0) (q1 := 0) (ci := 12) (As := [.int (0 : Int32)]) C 157 dX12_count_154 rfl kv_X12_362 (c_X12_friendsIn hq23) ⟨rfl, rfl⟩ ⟨Nat.le_of_ble_eq_true rfl, Nat.le_of_ble_eq_true rfl⟩ rfl rfl rfl rfl rfl ⟨Nat.zero_le _, Nat.zero_le _⟩ (Nat.le_of_ble_eq_true rfl) ?_
                        cases hf
                        exact wa_iret C dX12_count_157 rfl rfl
                      · replace hf := ite_f hf c22
                        by_cases c24 : p0 = 10
                        · replace hf := ite_t hf c24
                          refine wa_ts C 10 (135) 158 dX12_count_23 c24 (by decide) (by decide) rfl rfl ?_
                          refine wa_aload_n C 0 159 dX12_count_158 rfl rfl ?_
                          obtain ⟨q25, hq25, hf⟩ := bind_ex hf
                          refine wa_callVAi (b1 := 0) (q1 := 0) (ci := 12) (As := []) C 162 dX12_count_159 rfl kv_X12_365 (c_X12_toldOnes hq25) ⟨rfl, rfl⟩ ⟨Nat.le_of_ble_eq_true rfl, Nat.le_of_ble_eq_true rfl⟩ rfl rfl rfl rfl rfl ⟨Nat.zero_le _, Nat.zero_le _⟩ (Nat.le_of_ble_eq_true rfl) ?_
                          cases hf
                          exact wa_iret C dX12_count_162 rfl rfl
                        · replace hf := ite_f hf c24
                          by_cases c26 : p0 = 11
                          · replace hf := ite_t hf c26
                            refine wa_ts C 11 (140) 163 dX12_count_23 c26 (by decide) (by decide) rfl rfl ?_
                            refine wa_aload_n C 0 164 dX12_count_163 rfl rfl ?_
                            refine wa_get C 167 0 0 36 dX12_count_164 rfl iX12 q1485 rfl (Nat.le_of_ble_eq_true rfl) rfl rfl rfl ?_
                            cases hf
                            exact wa_iret C dX12_count_167 rfl rfl
                          · replace hf := ite_f hf c26
                            by_cases c27 : p0 = 12
                            · replace hf := ite_t hf c27
                              refine wa_ts C 12 (145) 168 dX12_count_23 c27 (by decide) (by decide) rfl rfl ?_
                              refine wa_aload_n C 0 169 dX12_count_168 rfl rfl ?_
                              refine wa_get C 172 0 0 48 dX12_count_169 rfl iX12 q1497 rfl (Nat.le_of_ble_eq_true rfl) rfl rfl rfl ?_
                              cases hf
                              exact wa_iret C dX12_count_172 rfl rfl
                            · replace hf := ite_f hf c27
                              by_cases c28 : p0 = 13
                              · replace hf := ite_t hf c28
                                refine wa_ts C 13 (150) 173 dX12_count_23 c28 (by decide) (by decide) rfl rfl ?_
                                refine wa_aload_n C 0 174 dX12_count_173 rfl rfl ?_
                                refine wa_get C 177 0 0 8 dX12_count_174 rfl iX12 q1457 rfl (Nat.le_of_ble_eq_true rfl) rfl rfl rfl ?_
                                cases hf
                                exact wa_iret C dX12_count_177 rfl rfl
                              · replace hf := ite_f hf c28
                                refine wa_tsd C 178 dX12_count_23 (ts_out (0) 14 (nts_s (nts_s (nts_s (nts_s (nts_s (nts_s (nts_s (nts_s (nts_s (nts_s (nts_s (nts_s (nts_s (nts_s nts_0 rfl c5) rfl c6) rfl c8) rfl c10) rfl c12) rfl c14) rfl c16) rfl c18) rfl c21) rfl c22) rfl c24) rfl c26) rfl c27) rfl c28)) rfl ?_
                                refine wa_aload_n C 0 179 dX12_count_178 rfl rfl ?_
                                refine wa_get C 182 0 0 11 dX12_count_179 rfl iX12 q1460 rfl (Nat.le_of_ble_eq_true rfl) rfl rfl rfl ?_
                                refine wa_iload_n C 1 183 dX12_count_182 rfl rfl ?_
                                refine wa_bipush (v := 14) C 185 dX12_count_183 rfl rfl ?_
                                refine wa_isub C 186 dX12_count_185 rfl ?_
                                obtain ⟨g29, hf⟩ := grd_ex hf
                                refine wa_iald C 187 0 4 dX12_count_186 rfl rfl rfl (vi_in g29) ?_
                                cases hf
                                exact wa_iret C dX12_count_187 rfl rfl
  · replace hf := ite_t hf c4
    refine wa_iconst (v := 0) C 21 dX12_count_20 rfl rfl ?_
    cases hf
    exact wa_iret C dX12_count_21 rfl rfl
def f_X12_isPerson_J18 (t0 : Int32) (z0 : MS) : Option (Int32 × MS) := (f_X12_right z0 t0 (1 : Int32)).bind (fun q2 => grd (bz q2.1) (some (q2.1, q2.2)))
def f_X12_isPerson_J17 (z0 : MS) : Option (Int32 × MS) := f_X12_isPerson_J18 (0 : Int32) z0
def f_X12_isPerson (v : MS) (p0 : Int32) : Option (Int32 × MS) := (if p0 < 0 then f_X12_isPerson_J17 v else (if (v.1 1) ≤ p0 then f_X12_isPerson_J17 v else f_X12_isPerson_J18 (1 : Int32) v))
set_option maxRecDepth 20000 in
theorem w_X12_isPerson_J18 {p : Program} {l : Launch} {e : Env} {s : State} {m : MethodId} {args : Array Value} {below : List Frame} {meth : Method} {c : Code} {D : va_G} {A : Nat → Prop} {dT : Nat → ClassId} {a : Nat → Nat} {res : Int32 × MS} (C : Cx p s m args meth c cX12_isPerson 2 RX12 (some .boolean) D A dT) : ∀ (t0 : Int32) (z0 : MS), f_X12_isPerson_J18 t0 z0 = some res → WA p l e ({ frames := 1, cells := 0, slots := 0, locals := 22 } : Room) s m args below meth c (MQ below (QI D dT A ([wM dT a res.2]) res.1) args s 0 0 A) D A 0 0 2 18 ([wM dT a z0]) [] [.int t0, .ref (a 0)] := by
  intro t0 z0 hf
  unfold f_X12_isPerson_J18 at hf
  refine wa_iconst (v := 1) C 19 dX12_isPerson_18 rfl rfl ?_
  obtain ⟨q2, hq2, hf⟩ := bind_ex hf
  refine wa_callVAi (b1 := 0) (q1 := 0) (ci := 12) (As := [.int t0, .int (1 : Int32)]) C 22 dX12_isPerson_19 rfl kv_X12_257 (c_X12_right hq2) ⟨rfl, rfl⟩ ⟨Nat.le_of_ble_eq_true rfl, Nat.le_of_ble_eq_true rfl⟩ rfl rfl rfl rfl rfl ⟨Nat.zero_le _, Nat.zero_le _⟩ (Nat.le_of_ble_eq_true rfl) ?_
  obtain ⟨g3, hf⟩ := grd_ex hf
  cases hf
  exact wa_zret C dX12_isPerson_22 (bz_nar g3) rfl rfl
set_option maxRecDepth 20000 in
theorem w_X12_isPerson_J17 {p : Program} {l : Launch} {e : Env} {s : State} {m : MethodId} {args : Array Value} {below : List Frame} {meth : Method} {c : Code} {D : va_G} {A : Nat → Prop} {dT : Nat → ClassId} {a : Nat → Nat} {res : Int32 × MS} (C : Cx p s m args meth c cX12_isPerson 2 RX12 (some .boolean) D A dT) : ∀ (z0 : MS), f_X12_isPerson_J17 z0 = some res → WA p l e ({ frames := 1, cells := 0, slots := 0, locals := 22 } : Room) s m args below meth c (MQ below (QI D dT A ([wM dT a res.2]) res.1) args s 0 0 A) D A 0 0 2 17 ([wM dT a z0]) [] [.ref (a 0)] := by
  intro z0 hf
  unfold f_X12_isPerson_J17 at hf
  refine wa_iconst (v := 0) C 18 dX12_isPerson_17 rfl rfl ?_
  exact w_X12_isPerson_J18 C (0 : Int32) z0 hf
set_option maxRecDepth 20000 in
theorem c_X12_isPerson {l : Launch} {D : va_G} {dT : Nat → ClassId} {a : Nat → Nat} {v : MS} {p0 : Int32} {res : Int32 × MS} (hf : f_X12_isPerson v p0 = some res) : CTi l yX12_isPerson cX12_isPerson 2 (some .boolean) ({ frames := 1, cells := 0, slots := 0, locals := 22 } : Room) D dT [.ref (a 0), .int p0] ([wM dT a v]) ([wM dT a res.2]) res.1 := by
  refine CTi.of (by decide) (Nat.le_of_ble_eq_true rfl) rfl ?_
  intro p e s m args below meth c A C
  unfold f_X12_isPerson at hf
  refine wa_aload_n C 0 1 dX12_isPerson_0 rfl rfl ?_
  refine wa_iload_n C 1 2 dX12_isPerson_1 rfl rfl ?_
  refine wa_if_lt C 17 5 dX12_isPerson_2 rfl rfl (fun c1 => ?_) (fun c1 => ?_)
  · replace hf := ite_t hf c1
    refine wa_lv (lv' := []) [] rfl ?_
    exact w_X12_isPerson_J17 C v hf
  · replace hf := ite_f hf c1
    refine wa_iload_n C 1 6 dX12_isPerson_5 rfl rfl ?_
    refine wa_aload_n C 0 7 dX12_isPerson_6 rfl rfl ?_
    refine wa_get C 10 0 0 1 dX12_isPerson_7 rfl iX12 q1450 rfl (Nat.le_of_ble_eq_true rfl) rfl rfl rfl ?_
    refine wa_icmp_ge C 17 13 dX12_isPerson_10 rfl rfl (fun c4 => ?_) (fun c4 => ?_)
    · replace hf := ite_t hf c4
      refine wa_lv (lv' := []) [] rfl ?_
      exact w_X12_isPerson_J17 C v hf
    · replace hf := ite_f hf c4
      refine wa_iconst (v := 1) C 14 dX12_isPerson_13 rfl rfl ?_
      refine wa_goto C 18 dX12_isPerson_14 rfl ?_
      refine wa_lv (lv' := []) [] rfl ?_
      exact w_X12_isPerson_J18 C (1 : Int32) v hf
def f_X12_isHouse_J20 (t0 : Int32) (z0 : MS) : Option (Int32 × MS) := (f_X12_right z0 t0 (1 : Int32)).bind (fun q2 => grd (bz q2.1) (some (q2.1, q2.2)))
def f_X12_isHouse_J19 (z0 : MS) : Option (Int32 × MS) := f_X12_isHouse_J20 (0 : Int32) z0
def f_X12_isHouse (v : MS) (p0 : Int32) : Option (Int32 × MS) := (if p0 < 0 then f_X12_isHouse_J19 v else grd (vi (1 : Int32) 172) ((if (v.2.2 10 ((1 : Int32)).toNatClampNeg) ≤ p0 then f_X12_isHouse_J19 v else f_X12_isHouse_J20 (1 : Int32) v)))
set_option maxRecDepth 20000 in
theorem w_X12_isHouse_J20 {p : Program} {l : Launch} {e : Env} {s : State} {m : MethodId} {args : Array Value} {below : List Frame} {meth : Method} {c : Code} {D : va_G} {A : Nat → Prop} {dT : Nat → ClassId} {a : Nat → Nat} {res : Int32 × MS} (C : Cx p s m args meth c cX12_isHouse 2 RX12 (some .boolean) D A dT) : ∀ (t0 : Int32) (z0 : MS), f_X12_isHouse_J20 t0 z0 = some res → WA p l e ({ frames := 1, cells := 0, slots := 0, locals := 22 } : Room) s m args below meth c (MQ below (QI D dT A ([wM dT a res.2]) res.1) args s 0 0 A) D A 0 0 2 20 ([wM dT a z0]) [] [.int t0, .ref (a 0)] := by
  intro t0 z0 hf
  unfold f_X12_isHouse_J20 at hf
  refine wa_iconst (v := 1) C 21 dX12_isHouse_20 rfl rfl ?_
  obtain ⟨q2, hq2, hf⟩ := bind_ex hf
  refine wa_callVAi (b1 := 0) (q1 := 0) (ci := 12) (As := [.int t0, .int (1 : Int32)]) C 24 dX12_isHouse_21 rfl kv_X12_257 (c_X12_right hq2) ⟨rfl, rfl⟩ ⟨Nat.le_of_ble_eq_true rfl, Nat.le_of_ble_eq_true rfl⟩ rfl rfl rfl rfl rfl ⟨Nat.zero_le _, Nat.zero_le _⟩ (Nat.le_of_ble_eq_true rfl) ?_
  obtain ⟨g3, hf⟩ := grd_ex hf
  cases hf
  exact wa_zret C dX12_isHouse_24 (bz_nar g3) rfl rfl
set_option maxRecDepth 20000 in
theorem w_X12_isHouse_J19 {p : Program} {l : Launch} {e : Env} {s : State} {m : MethodId} {args : Array Value} {below : List Frame} {meth : Method} {c : Code} {D : va_G} {A : Nat → Prop} {dT : Nat → ClassId} {a : Nat → Nat} {res : Int32 × MS} (C : Cx p s m args meth c cX12_isHouse 2 RX12 (some .boolean) D A dT) : ∀ (z0 : MS), f_X12_isHouse_J19 z0 = some res → WA p l e ({ frames := 1, cells := 0, slots := 0, locals := 22 } : Room) s m args below meth c (MQ below (QI D dT A ([wM dT a res.2]) res.1) args s 0 0 A) D A 0 0 2 19 ([wM dT a z0]) [] [.ref (a 0)] := by
  intro z0 hf
  unfold f_X12_isHouse_J19 at hf
  refine wa_iconst (v := 0) C 20 dX12_isHouse_19 rfl rfl ?_
  exact w_X12_isHouse_J20 C (0 : Int32) z0 hf
set_option maxRecDepth 20000 in
theorem c_X12_isHouse {l : Launch} {D : va_G} {dT : Nat → ClassId} {a : Nat → Nat} {v : MS} {p0 : Int32} {res : Int32 × MS} (hf : f_X12_isHouse v p0 = some res) : CTi l yX12_isHouse cX12_isHouse 2 (some .boolean) ({ frames := 1, cells := 0, slots := 0, locals := 22 } : Room) D dT [.ref (a 0), .int p0] ([wM dT a v]) ([wM dT a res.2]) res.1 := by
  refine CTi.of (by decide) (Nat.le_of_ble_eq_true rfl) rfl ?_
  intro p e s m args below meth c A C
  unfold f_X12_isHouse at hf
  refine wa_aload_n C 0 1 dX12_isHouse_0 rfl rfl ?_
  refine wa_iload_n C 1 2 dX12_isHouse_1 rfl rfl ?_
  refine wa_if_lt C 19 5 dX12_isHouse_2 rfl rfl (fun c1 => ?_) (fun c1 => ?_)
  · replace hf := ite_t hf c1
    refine wa_lv (lv' := []) [] rfl ?_
    exact w_X12_isHouse_J19 C v hf
  · replace hf := ite_f hf c1
    refine wa_iload_n C 1 6 dX12_isHouse_5 rfl rfl ?_
    refine wa_aload_n C 0 7 dX12_isHouse_6 rfl rfl ?_
    refine wa_get C 10 0 0 34 dX12_isHouse_7 rfl iX12 q1483 rfl (Nat.le_of_ble_eq_true rfl) rfl rfl rfl ?_
    refine wa_iconst (v := 1) C 11 dX12_isHouse_10 rfl rfl ?_
    obtain ⟨g4, hf⟩ := grd_ex hf
    refine wa_iald C 12 0 10 dX12_isHouse_11 rfl rfl rfl (vi_in g4) ?_
    refine wa_icmp_ge C 19 15 dX12_isHouse_12 rfl rfl (fun c5 => ?_) (fun c5 => ?_)
    · replace hf := ite_t hf c5
      refine wa_lv (lv' := []) [] rfl ?_
      exact w_X12_isHouse_J19 C v hf
    · replace hf := ite_f hf c5
      refine wa_iconst (v := 1) C 16 dX12_isHouse_15 rfl rfl ?_
      refine wa_goto C 20 dX12_isHouse_16 rfl ?_
      refine wa_lv (lv' := []) [] rfl ?_
      exact w_X12_isHouse_J20 C (1 : Int32) v hf
def f_X12_isWhat (v : MS) (p0 : Int32) (p1 : Int32) : Option (Int32 × MS) := (f_X12_within p0 (0 : Int32) p1).bind (fun q1 => (f_X12_right v q1 (1 : Int32)).bind (fun q2 => grd (bz q2.1) (some (q2.1, q2.2))))
set_option maxRecDepth 20000 in
theorem c_X12_isWhat {l : Launch} {D : va_G} {dT : Nat → ClassId} {a : Nat → Nat} {v : MS} {p0 : Int32} {p1 : Int32} {res : Int32 × MS} (hf : f_X12_isWhat v p0 p1 = some res) : CTi l yX12_isWhat cX12_isWhat 3 (some .boolean) ({ frames := 1, cells := 0, slots := 0, locals := 22 } : Room) D dT [.ref (a 0), .int p0, .int p1] ([wM dT a v]) ([wM dT a res.2]) res.1 := by
  refine CTi.of (by decide) (Nat.le_of_ble_eq_true rfl) rfl ?_
  intro p e s m args below meth c A C
  unfold f_X12_isWhat at hf
  refine wa_aload_n C 0 1 dX12_isWhat_0 rfl rfl ?_
  refine wa_iload_n C 1 2 dX12_isWhat_1 rfl rfl ?_
  refine wa_iconst (v := 0) C 3 dX12_isWhat_2 rfl rfl ?_
  refine wa_iload_n C 2 4 dX12_isWhat_3 rfl rfl ?_
  obtain ⟨q1, hq1, hf⟩ := bind_ex hf
  refine wa_callS0i (As := [.int p0, .int (0 : Int32), .int p1]) C 7 dX12_isWhat_4 rfl ks_X12_346 (c_X12_within hq1) ⟨rfl, rfl⟩ ⟨Nat.le_of_ble_eq_true rfl, Nat.le_of_ble_eq_true rfl⟩ rfl rfl ⟨Nat.zero_le _, Nat.zero_le _⟩ (Nat.le_of_ble_eq_true rfl) ?_
  refine wa_iconst (v := 1) C 8 dX12_isWhat_7 rfl rfl ?_
  obtain ⟨q2, hq2, hf⟩ := bind_ex hf
  refine wa_callVAi (b1 := 0) (q1 := 0) (ci := 12) (As := [.int q1, .int (1 : Int32)]) C 11 dX12_isWhat_8 rfl kv_X12_257 (c_X12_right hq2) ⟨rfl, rfl⟩ ⟨Nat.le_of_ble_eq_true rfl, Nat.le_of_ble_eq_true rfl⟩ rfl rfl rfl rfl rfl ⟨Nat.zero_le _, Nat.zero_le _⟩ (Nat.le_of_ble_eq_true rfl) ?_
  obtain ⟨g3, hf⟩ := grd_ex hf
  cases hf
  exact wa_zret C dX12_isWhat_11 (bz_nar g3) rfl rfl
def f_X12_isSoon (v : MS) (p0 : Int32) (p1 : Int32) (p2 : Int32) : Option (Int32 × MS) := (f_X12_within p0 p1 (100 : Int32)).bind (fun q1 => (f_X12_right v q1 p2).bind (fun q2 => grd (bz q2.1) (some (q2.1, q2.2))))
set_option maxRecDepth 20000 in
theorem c_X12_isSoon {l : Launch} {D : va_G} {dT : Nat → ClassId} {a : Nat → Nat} {v : MS} {p0 : Int32} {p1 : Int32} {p2 : Int32} {res : Int32 × MS} (hf : f_X12_isSoon v p0 p1 p2 = some res) : CTi l yX12_isSoon cX12_isSoon 4 (some .boolean) ({ frames := 1, cells := 0, slots := 0, locals := 22 } : Room) D dT [.ref (a 0), .int p0, .int p1, .int p2] ([wM dT a v]) ([wM dT a res.2]) res.1 := by
  refine CTi.of (by decide) (Nat.le_of_ble_eq_true rfl) rfl ?_
  intro p e s m args below meth c A C
  unfold f_X12_isSoon at hf
  refine wa_aload_n C 0 1 dX12_isSoon_0 rfl rfl ?_
  refine wa_iload_n C 1 2 dX12_isSoon_1 rfl rfl ?_
  refine wa_iload_n C 2 3 dX12_isSoon_2 rfl rfl ?_
  refine wa_bipush (v := 100) C 5 dX12_isSoon_3 rfl rfl ?_
  obtain ⟨q1, hq1, hf⟩ := bind_ex hf
  refine wa_callS0i (As := [.int p0, .int p1, .int (100 : Int32)]) C 8 dX12_isSoon_5 rfl ks_X12_346 (c_X12_within hq1) ⟨rfl, rfl⟩ ⟨Nat.le_of_ble_eq_true rfl, Nat.le_of_ble_eq_true rfl⟩ rfl rfl ⟨Nat.zero_le _, Nat.zero_le _⟩ (Nat.le_of_ble_eq_true rfl) ?_
  refine wa_iload_n C 3 9 dX12_isSoon_8 rfl rfl ?_
  obtain ⟨q2, hq2, hf⟩ := bind_ex hf
  refine wa_callVAi (b1 := 0) (q1 := 0) (ci := 12) (As := [.int q1, .int p2]) C 12 dX12_isSoon_9 rfl kv_X12_257 (c_X12_right hq2) ⟨rfl, rfl⟩ ⟨Nat.le_of_ble_eq_true rfl, Nat.le_of_ble_eq_true rfl⟩ rfl rfl rfl rfl rfl ⟨Nat.zero_le _, Nat.zero_le _⟩ (Nat.le_of_ble_eq_true rfl) ?_
  obtain ⟨g3, hf⟩ := grd_ex hf
  cases hf
  exact wa_zret C dX12_isSoon_12 (bz_nar g3) rfl rfl
def f_X12_friendsOf_J41 (k4 : Int32 → Int32 → Option (Int32)) (l1 : Int32) (z0 : MS) (l3 : Int32) (t0 : Int32) (t1 : Int32) : Option (Int32) := bnd (t1 ||| t0) (fun x4 => grd (vi (((2 : Int32) * l3) + (1 : Int32)) 24) ((if (z0.2.2 1 ((((2 : Int32) * l3) + (1 : Int32))).toNatClampNeg) = l1 then grd (vi ((2 : Int32) * l3) 24) (bnd (x4 ||| ((1 : Int32) <<< ((z0.2.2 1 (((2 : Int32) * l3)).toNatClampNeg) &&& 31))) (fun x10 => bnd (l3 + 1) (fun x11 => k4 x10 x11))) else bnd (x4 ||| (0 : Int32)) (fun x7 => bnd (l3 + 1) (fun x8 => k4 x7 x8)))))
def f_X12_friendsOf_L4 (l1 : Int32) (z0 : MS) : Nat → Int32 → Int32 → Option (Int32)
  | 0, _, _ => none
  | n + 1, l2, l3 => (if (z0.1 2) ≤ l3 then some (l2) else grd (vi ((2 : Int32) * l3) 24) ((if (z0.2.2 1 (((2 : Int32) * l3)).toNatClampNeg) = l1 then grd (vi (((2 : Int32) * l3) + (1 : Int32)) 24) (f_X12_friendsOf_J41 (f_X12_friendsOf_L4 l1 z0 n) l1 z0 l3 ((1 : Int32) <<< ((z0.2.2 1 ((((2 : Int32) * l3) + (1 : Int32))).toNatClampNeg) &&& 31)) l2) else f_X12_friendsOf_J41 (f_X12_friendsOf_L4 l1 z0 n) l1 z0 l3 (0 : Int32) l2)))
def f_X12_friendsOf (v : MS) (p0 : Int32) : Option (Int32) := f_X12_friendsOf_L4 p0 v FUEL (0 : Int32) (0 : Int32)
set_option maxRecDepth 20000 in
theorem w_X12_friendsOf_J41 {p : Program} {l : Launch} {e : Env} {s : State} {m : MethodId} {args : Array Value} {below : List Frame} {meth : Method} {c : Code} {D : va_G} {A : Nat → Prop} {dT : Nat → ClassId} {a : Nat → Nat} {res : Int32} {l1 : Int32} {z0 : MS} (C : Cx p s m args meth c cX12_friendsOf 4 RX12 (some .int) D A dT) {k4 : Int32 → Int32 → Option (Int32)} (hk4 : ∀ (l2 : Int32) (l3 : Int32), k4 l2 l3 = some res → WA p l e ({ frames := 0, cells := 0, slots := 0, locals := 0 } : Room) s m args below meth c (MQ below (QI D dT A ([wM dT a z0]) res) args s 0 0 A) D A 0 0 4 4 ([wM dT a z0]) [(0, .ref (a 0)), (1, .int l1), (2, .int l2), (3, .int l3)] []) : ∀ (l3 : Int32) (t0 : Int32) (t1 : Int32), f_X12_friendsOf_J41 k4 l1 z0 l3 t0 t1 = some res → WA p l e ({ frames := 0, cells := 0, slots := 0, locals := 0 } : Room) s m args below meth c (MQ below (QI D dT A ([wM dT a z0]) res) args s 0 0 A) D A 0 0 4 41 ([wM dT a z0]) [(0, .ref (a 0)), (1, .int l1), (3, .int l3)] [.int t0, .int t1] := by
  intro l3 t0 t1 hf
  unfold f_X12_friendsOf_J41 at hf
  refine wa_ior C 42 dX12_friendsOf_41 rfl ?_
  obtain ⟨x4, ex4, hf⟩ := bnd_ex hf
  refine wa_topi ex4 ?_
  refine wa_istore_n (lv' := [(0, .ref (a 0)), (1, .int l1), (2, .int x4), (3, .int l3)]) C [1, 2, 0, 3] 43 dX12_friendsOf_42 rfl (Nat.le_of_ble_eq_true rfl) rfl ?_
  refine wa_iload_n C 2 44 dX12_friendsOf_43 rfl rfl ?_
  refine wa_aload_n C 0 45 dX12_friendsOf_44 rfl rfl ?_
  refine wa_get C 48 0 0 5 dX12_friendsOf_45 rfl iX12 q1454 rfl (Nat.le_of_ble_eq_true rfl) rfl rfl rfl ?_
  refine wa_iconst (v := 2) C 49 dX12_friendsOf_48 rfl rfl ?_
  refine wa_iload_n C 3 50 dX12_friendsOf_49 rfl rfl ?_
  refine wa_imul C 51 dX12_friendsOf_50 rfl ?_
  refine wa_iconst (v := 1) C 52 dX12_friendsOf_51 rfl rfl ?_
  refine wa_iadd C 53 dX12_friendsOf_52 rfl ?_
  obtain ⟨g5, hf⟩ := grd_ex hf
  refine wa_iald C 54 0 1 dX12_friendsOf_53 rfl rfl rfl (vi_in g5) ?_
  refine wa_iload_n C 1 55 dX12_friendsOf_54 rfl rfl ?_
  refine wa_icmp_ne C 71 58 dX12_friendsOf_55 rfl rfl (fun c6 => ?_) (fun c6 => ?_)
  · replace hf := ite_f hf c6
    refine wa_iconst (v := 0) C 72 dX12_friendsOf_71 rfl rfl ?_
    refine wa_ior C 73 dX12_friendsOf_72 rfl ?_
    obtain ⟨x7, ex7, hf⟩ := bnd_ex hf
    refine wa_topi ex7 ?_
    refine wa_istore_n (lv' := [(0, .ref (a 0)), (1, .int l1), (2, .int x7), (3, .int l3)]) C [1, 2, 0, 3] 74 dX12_friendsOf_73 rfl (Nat.le_of_ble_eq_true rfl) rfl ?_
    obtain ⟨x8, ex8, hf⟩ := bnd_ex hf
    refine wa_iinc (v := x8) (lv' := [(0, .ref (a 0)), (1, .int l1), (2, .int x7), (3, .int x8)]) C 3 [1, 2, 3, 0] 77 dX12_friendsOf_74 rfl rfl (by rw [ex8]; rfl) (Nat.le_of_ble_eq_true rfl) rfl ?_
    refine wa_goto C 4 dX12_friendsOf_77 rfl ?_
    exact hk4 x7 x8 hf
  · replace hf := ite_t hf c6
    refine wa_iconst (v := 1) C 59 dX12_friendsOf_58 rfl rfl ?_
    refine wa_aload_n C 0 60 dX12_friendsOf_59 rfl rfl ?_
    refine wa_get C 63 0 0 5 dX12_friendsOf_60 rfl iX12 q1454 rfl (Nat.le_of_ble_eq_true rfl) rfl rfl rfl ?_
    refine wa_iconst (v := 2) C 64 dX12_friendsOf_63 rfl rfl ?_
    refine wa_iload_n C 3 65 dX12_friendsOf_64 rfl rfl ?_
    refine wa_imul C 66 dX12_friendsOf_65 rfl ?_
    obtain ⟨g9, hf⟩ := grd_ex hf
    refine wa_iald C 67 0 1 dX12_friendsOf_66 rfl rfl rfl (vi_in g9) ?_
    refine wa_ishl C 68 dX12_friendsOf_67 rfl ?_
    refine wa_goto C 72 dX12_friendsOf_68 rfl ?_
    refine wa_ior C 73 dX12_friendsOf_72 rfl ?_
    obtain ⟨x10, ex10, hf⟩ := bnd_ex hf
    refine wa_topi ex10 ?_
    refine wa_istore_n (lv' := [(0, .ref (a 0)), (1, .int l1), (2, .int x10), (3, .int l3)]) C [1, 2, 0, 3] 74 dX12_friendsOf_73 rfl (Nat.le_of_ble_eq_true rfl) rfl ?_
    obtain ⟨x11, ex11, hf⟩ := bnd_ex hf
    refine wa_iinc (v := x11) (lv' := [(0, .ref (a 0)), (1, .int l1), (2, .int x10), (3, .int x11)]) C 3 [1, 2, 3, 0] 77 dX12_friendsOf_74 rfl rfl (by rw [ex11]; rfl) (Nat.le_of_ble_eq_true rfl) rfl ?_
    refine wa_goto C 4 dX12_friendsOf_77 rfl ?_
    exact hk4 x10 x11 hf
set_option maxRecDepth 20000 in
theorem w_X12_friendsOf_L4 {p : Program} {l : Launch} {e : Env} {s : State} {m : MethodId} {args : Array Value} {below : List Frame} {meth : Method} {c : Code} {D : va_G} {A : Nat → Prop} {dT : Nat → ClassId} {a : Nat → Nat} {res : Int32} {l1 : Int32} {z0 : MS} (C : Cx p s m args meth c cX12_friendsOf 4 RX12 (some .int) D A dT) : ∀ (n : Nat) (l2 : Int32) (l3 : Int32), f_X12_friendsOf_L4 l1 z0 n l2 l3 = some res → WA p l e ({ frames := 0, cells := 0, slots := 0, locals := 0 } : Room) s m args below meth c (MQ below (QI D dT A ([wM dT a z0]) res) args s 0 0 A) D A 0 0 4 4 ([wM dT a z0]) [(0, .ref (a 0)), (1, .int l1), (2, .int l2), (3, .int l3)] [] := by
  intro n
  induction n with
  | zero => intro l2 l3 hf; cases hf
  | succ n ih =>
    intro l2 l3 hf
    unfold f_X12_friendsOf_L4 at hf
    refine wa_iload_n C 3 5 dX12_friendsOf_4 rfl rfl ?_
    refine wa_aload_n C 0 6 dX12_friendsOf_5 rfl rfl ?_
    refine wa_get C 9 0 0 2 dX12_friendsOf_6 rfl iX12 q1451 rfl (Nat.le_of_ble_eq_true rfl) rfl rfl rfl ?_
    refine wa_icmp_ge C 80 12 dX12_friendsOf_9 rfl rfl (fun c1 => ?_) (fun c1 => ?_)
    · replace hf := ite_t hf c1
      refine wa_iload_n C 2 81 dX12_friendsOf_80 rfl rfl ?_
      cases hf
      exact wa_iret C dX12_friendsOf_81 rfl rfl
    · replace hf := ite_f hf c1
      refine wa_iload_n C 2 13 dX12_friendsOf_12 rfl rfl ?_
      refine wa_aload_n C 0 14 dX12_friendsOf_13 rfl rfl ?_
      refine wa_get C 17 0 0 5 dX12_friendsOf_14 rfl iX12 q1454 rfl (Nat.le_of_ble_eq_true rfl) rfl rfl rfl ?_
      refine wa_iconst (v := 2) C 18 dX12_friendsOf_17 rfl rfl ?_
      refine wa_iload_n C 3 19 dX12_friendsOf_18 rfl rfl ?_
      refine wa_imul C 20 dX12_friendsOf_19 rfl ?_
      obtain ⟨g2, hf⟩ := grd_ex hf
      refine wa_iald C 21 0 1 dX12_friendsOf_20 rfl rfl rfl (vi_in g2) ?_
      refine wa_iload_n C 1 22 dX12_friendsOf_21 rfl rfl ?_
      refine wa_icmp_ne C 40 25 dX12_friendsOf_22 rfl rfl (fun c3 => ?_) (fun c3 => ?_)
      · replace hf := ite_f hf c3
        refine wa_iconst (v := 0) C 41 dX12_friendsOf_40 rfl rfl ?_
        refine wa_lv (lv' := [(0, .ref (a 0)), (1, .int l1), (3, .int l3)]) [0, 1, 3] rfl ?_
        exact w_X12_friendsOf_J41 C ih l3 (0 : Int32) l2 hf
      · replace hf := ite_t hf c3
        refine wa_iconst (v := 1) C 26 dX12_friendsOf_25 rfl rfl ?_
        refine wa_aload_n C 0 27 dX12_friendsOf_26 rfl rfl ?_
        refine wa_get C 30 0 0 5 dX12_friendsOf_27 rfl iX12 q1454 rfl (Nat.le_of_ble_eq_true rfl) rfl rfl rfl ?_
        refine wa_iconst (v := 2) C 31 dX12_friendsOf_30 rfl rfl ?_
        refine wa_iload_n C 3 32 dX12_friendsOf_31 rfl rfl ?_
        refine wa_imul C 33 dX12_friendsOf_32 rfl ?_
        refine wa_iconst (v := 1) C 34 dX12_friendsOf_33 rfl rfl ?_
        refine wa_iadd C 35 dX12_friendsOf_34 rfl ?_
        obtain ⟨g12, hf⟩ := grd_ex hf
        refine wa_iald C 36 0 1 dX12_friendsOf_35 rfl rfl rfl (vi_in g12) ?_
        refine wa_ishl C 37 dX12_friendsOf_36 rfl ?_
        refine wa_goto C 41 dX12_friendsOf_37 rfl ?_
        refine wa_lv (lv' := [(0, .ref (a 0)), (1, .int l1), (3, .int l3)]) [0, 1, 3] rfl ?_
        exact w_X12_friendsOf_J41 C ih l3 ((1 : Int32) <<< ((z0.2.2 1 ((((2 : Int32) * l3) + (1 : Int32))).toNatClampNeg) &&& 31)) l2 hf
set_option maxRecDepth 20000 in
theorem c_X12_friendsOf {l : Launch} {D : va_G} {dT : Nat → ClassId} {a : Nat → Nat} {v : MS} {p0 : Int32} {res : Int32} (hf : f_X12_friendsOf v p0 = some res) : CTi l yX12_friendsOf cX12_friendsOf 4 (some .int) ({ frames := 0, cells := 0, slots := 0, locals := 0 } : Room) D dT [.ref (a 0), .int p0] ([wM dT a v]) ([wM dT a v]) res := by
  refine CTi.of (by decide) (Nat.le_of_ble_eq_true rfl) rfl ?_
  intro p e s m args below meth c A C
  unfold f_X12_friendsOf at hf
  refine wa_iconst (v := 0) C 1 dX12_friendsOf_0 rfl rfl ?_
  refine wa_istore_n (lv' := [(0, .ref (a 0)), (1, .int p0), (2, .int (0 : Int32))]) C [1, 2, 0] 2 dX12_friendsOf_1 rfl (Nat.le_of_ble_eq_true rfl) rfl ?_
  refine wa_iconst (v := 0) C 3 dX12_friendsOf_2 rfl rfl ?_
  refine wa_istore_n (lv' := [(0, .ref (a 0)), (1, .int p0), (2, .int (0 : Int32)), (3, .int (0 : Int32))]) C [1, 2, 3, 0] 4 dX12_friendsOf_3 rfl (Nat.le_of_ble_eq_true rfl) rfl ?_
  exact w_X12_friendsOf_L4 C FUEL (0 : Int32) (0 : Int32) hf
def f_X12_withOne (v : MS) (p0 : Int32) (p1 : Int32) : Option (Int32) := grd (vi ((p0 + (2 : Int32)) + p1) 172) ((f_X12_inHouse v p0 (v.2.2 10 (((p0 + (2 : Int32)) + p1)).toNatClampNeg)).bind (fun q2 => some ((q2 &&& (((1 : Int32) <<< (p1 &&& 31)) ^^^ (-1 : Int32))))))
set_option maxRecDepth 20000 in
theorem c_X12_withOne {l : Launch} {D : va_G} {dT : Nat → ClassId} {a : Nat → Nat} {v : MS} {p0 : Int32} {p1 : Int32} {res : Int32} (hf : f_X12_withOne v p0 p1 = some res) : CTi l yX12_withOne cX12_withOne 3 (some .int) ({ frames := 1, cells := 0, slots := 0, locals := 24 } : Room) D dT [.ref (a 0), .int p0, .int p1] ([wM dT a v]) ([wM dT a v]) res := by
  refine CTi.of (by decide) (Nat.le_of_ble_eq_true rfl) rfl ?_
  intro p e s m args below meth c A C
  unfold f_X12_withOne at hf
  refine wa_aload_n C 0 1 dX12_withOne_0 rfl rfl ?_
  refine wa_iload_n C 1 2 dX12_withOne_1 rfl rfl ?_
  refine wa_aload_n C 0 3 dX12_withOne_2 rfl rfl ?_
  refine wa_get C 6 0 0 34 dX12_withOne_3 rfl iX12 q1483 rfl (Nat.le_of_ble_eq_true rfl) rfl rfl rfl ?_
  refine wa_iload_n C 1 7 dX12_withOne_6 rfl rfl ?_
  refine wa_iconst (v := 2) C 8 dX12_withOne_7 rfl rfl ?_
  refine wa_iadd C 9 dX12_withOne_8 rfl ?_
  refine wa_iload_n C 2 10 dX12_withOne_9 rfl rfl ?_
  refine wa_iadd C 11 dX12_withOne_10 rfl ?_
  obtain ⟨g1, hf⟩ := grd_ex hf
  refine wa_iald C 12 0 10 dX12_withOne_11 rfl rfl rfl (vi_in g1) ?_
  obtain ⟨q2, hq2, hf⟩ := bind_ex hf
  refine wa_callVAi (b1 := 0) (q1 := 0) (ci := 12) (As := [.int p0, .int (v.2.2 10 (((p0 + (2 : Int32)) + p1)).toNatClampNeg)]) C 15 dX12_withOne_12 rfl kv_X12_288 (c_X12_inHouse hq2) ⟨rfl, rfl⟩ ⟨Nat.le_of_ble_eq_true rfl, Nat.le_of_ble_eq_true rfl⟩ rfl rfl rfl rfl rfl ⟨Nat.zero_le _, Nat.zero_le _⟩ (Nat.le_of_ble_eq_true rfl) ?_
  refine wa_iconst (v := 1) C 16 dX12_withOne_15 rfl rfl ?_
  refine wa_iload_n C 2 17 dX12_withOne_16 rfl rfl ?_
  refine wa_ishl C 18 dX12_withOne_17 rfl ?_
  refine wa_iconst (v := (-1)) C 19 dX12_withOne_18 rfl rfl ?_
  refine wa_ixor C 20 dX12_withOne_19 rfl ?_
  refine wa_iand C 21 dX12_withOne_20 rfl ?_
  cases hf
  exact wa_iret C dX12_withOne_21 rfl rfl
def f_X12_lowestOut_L2 (l0 : Int32) : Nat → Int32 → Option (Int32)
  | 0, _ => none
  | n + 1, l1 => (if ((l0 >>> (l1 &&& 31)) &&& (1 : Int32)) = (1 : Int32) then bnd (l1 + 1) (fun x2 => f_X12_lowestOut_L2 l0 n x2) else some (l1))
def f_X12_lowestOut (p0 : Int32) : Option (Int32) := f_X12_lowestOut_L2 p0 FUEL (0 : Int32)
set_option maxRecDepth 20000 in
theorem w_X12_lowestOut_L2 {p : Program} {l : Launch} {e : Env} {s : State} {m : MethodId} {args : Array Value} {below : List Frame} {meth : Method} {c : Code} {D : va_G} {A : Nat → Prop} {dT : Nat → ClassId} {res : Int32} {l0 : Int32} (C : Cx p s m args meth c cX12_lowestOut 2 RX12 (some .int) D A dT) : ∀ (n : Nat) (l1 : Int32), f_X12_lowestOut_L2 l0 n l1 = some res → WA p l e ({ frames := 0, cells := 0, slots := 0, locals := 0 } : Room) s m args below meth c (MQ below (QI D dT A ([]) res) args s 0 0 A) D A 0 0 2 2 ([]) [(0, .int l0), (1, .int l1)] [] := by
  intro n
  induction n with
  | zero => intro l1 hf; cases hf
  | succ n ih =>
    intro l1 hf
    unfold f_X12_lowestOut_L2 at hf
    refine wa_iload_n C 0 3 dX12_lowestOut_2 rfl rfl ?_
    refine wa_iload_n C 1 4 dX12_lowestOut_3 rfl rfl ?_
    refine wa_ishr C 5 dX12_lowestOut_4 rfl ?_
    refine wa_iconst (v := 1) C 6 dX12_lowestOut_5 rfl rfl ?_
    refine wa_iand C 7 dX12_lowestOut_6 rfl ?_
    refine wa_iconst (v := 1) C 8 dX12_lowestOut_7 rfl rfl ?_
    refine wa_icmp_ne C 17 11 dX12_lowestOut_8 rfl rfl (fun c1 => ?_) (fun c1 => ?_)
    · replace hf := ite_f hf c1
      refine wa_iload_n C 1 18 dX12_lowestOut_17 rfl rfl ?_
      cases hf
      exact wa_iret C dX12_lowestOut_18 rfl rfl
    · replace hf := ite_t hf c1
      obtain ⟨x2, ex2, hf⟩ := bnd_ex hf
      refine wa_iinc (v := x2) (lv' := [(0, .int l0), (1, .int x2)]) C 1 [1, 0] 14 dX12_lowestOut_11 rfl rfl (by rw [ex2]; rfl) (Nat.le_of_ble_eq_true rfl) rfl ?_
      refine wa_goto C 2 dX12_lowestOut_14 rfl ?_
      exact ih x2 hf
set_option maxRecDepth 20000 in
theorem c_X12_lowestOut {l : Launch} {D : va_G} {dT : Nat → ClassId} {p0 : Int32} {res : Int32} (hf : f_X12_lowestOut p0 = some res) : CTi l yX12_lowestOut cX12_lowestOut 2 (some .int) ({ frames := 0, cells := 0, slots := 0, locals := 0 } : Room) D dT [.int p0] ([]) ([]) res := by
  refine CTi.of (by decide) (Nat.le_of_ble_eq_true rfl) rfl ?_
  intro p e s m args below meth c A C
  unfold f_X12_lowestOut at hf
  refine wa_iconst (v := 0) C 1 dX12_lowestOut_0 rfl rfl ?_
  refine wa_istore_n (lv' := [(0, .int p0), (1, .int (0 : Int32))]) C [1, 0] 2 dX12_lowestOut_1 rfl (Nat.le_of_ble_eq_true rfl) rfl ?_
  exact w_X12_lowestOut_L2 C FUEL (0 : Int32) hf
def f_X12_canPair (v : MS) (p0 : Int32) (p1 : Int32) : Option (Int32) := (if p0 = p1 then some ((0 : Int32)) else grd (vi ((2 : Int32) + p0) 172) (grd (vi ((2 : Int32) + p1) 172) ((if (v.2.2 10 (((2 : Int32) + p0)).toNatClampNeg) = (v.2.2 10 (((2 : Int32) + p1)).toNatClampNeg) then some ((1 : Int32)) else some ((0 : Int32))))))
set_option maxRecDepth 20000 in
theorem c_X12_canPair {l : Launch} {D : va_G} {dT : Nat → ClassId} {a : Nat → Nat} {v : MS} {p0 : Int32} {p1 : Int32} {res : Int32} (hf : f_X12_canPair v p0 p1 = some res) : CTi l yX12_canPair cX12_canPair 3 (some .boolean) ({ frames := 0, cells := 0, slots := 0, locals := 0 } : Room) D dT [.ref (a 0), .int p0, .int p1] ([wM dT a v]) ([wM dT a v]) res := by
  refine CTi.of (by decide) (Nat.le_of_ble_eq_true rfl) rfl ?_
  intro p e s m args below meth c A C
  unfold f_X12_canPair at hf
  refine wa_iload_n C 1 1 dX12_canPair_0 rfl rfl ?_
  refine wa_iload_n C 2 2 dX12_canPair_1 rfl rfl ?_
  refine wa_icmp_eq C 28 5 dX12_canPair_2 rfl rfl (fun c1 => ?_) (fun c1 => ?_)
  · replace hf := ite_t hf c1
    refine wa_iconst (v := 0) C 29 dX12_canPair_28 rfl rfl ?_
    cases hf
    exact wa_zret C dX12_canPair_29 rfl rfl rfl
  · replace hf := ite_f hf c1
    refine wa_aload_n C 0 6 dX12_canPair_5 rfl rfl ?_
    refine wa_get C 9 0 0 34 dX12_canPair_6 rfl iX12 q1483 rfl (Nat.le_of_ble_eq_true rfl) rfl rfl rfl ?_
    refine wa_iconst (v := 2) C 10 dX12_canPair_9 rfl rfl ?_
    refine wa_iload_n C 1 11 dX12_canPair_10 rfl rfl ?_
    refine wa_iadd C 12 dX12_canPair_11 rfl ?_
    obtain ⟨g2, hf⟩ := grd_ex hf
    refine wa_iald C 13 0 10 dX12_canPair_12 rfl rfl rfl (vi_in g2) ?_
    refine wa_aload_n C 0 14 dX12_canPair_13 rfl rfl ?_
    refine wa_get C 17 0 0 34 dX12_canPair_14 rfl iX12 q1483 rfl (Nat.le_of_ble_eq_true rfl) rfl rfl rfl ?_
    refine wa_iconst (v := 2) C 18 dX12_canPair_17 rfl rfl ?_
    refine wa_iload_n C 2 19 dX12_canPair_18 rfl rfl ?_
    refine wa_iadd C 20 dX12_canPair_19 rfl ?_
    obtain ⟨g3, hf⟩ := grd_ex hf
    refine wa_iald C 21 0 10 dX12_canPair_20 rfl rfl rfl (vi_in g3) ?_
    refine wa_icmp_ne C 28 24 dX12_canPair_21 rfl rfl (fun c4 => ?_) (fun c4 => ?_)
    · replace hf := ite_f hf c4
      refine wa_iconst (v := 0) C 29 dX12_canPair_28 rfl rfl ?_
      cases hf
      exact wa_zret C dX12_canPair_29 rfl rfl rfl
    · replace hf := ite_t hf c4
      refine wa_iconst (v := 1) C 25 dX12_canPair_24 rfl rfl ?_
      refine wa_goto C 29 dX12_canPair_25 rfl ?_
      cases hf
      exact wa_zret C dX12_canPair_29 rfl rfl rfl
theorem ks_X12_427 : KS RX12 427 yX12_apart cX12_apart 2 (some .int) 2 := KS.mk q1883 q1884 q13 q1885 ⟨by decide, by decide, by decide +kernel⟩
def f_X12_pairs (v : MS) (p0 : Int32) (p1 : Int32) (p2 : Int32) : Option (Int32) := grd (vi ((50 : Int32) + p1) 172) (grd (vi ((50 : Int32) + p2) 172) ((f_X12_apart (v.2.2 10 (((50 : Int32) + p1)).toNatClampNeg) (v.2.2 10 (((50 : Int32) + p2)).toNatClampNeg)).bind (fun q3 => grd (vi ((p0 ||| ((1 : Int32) <<< (p1 &&& 31))) ||| ((1 : Int32) <<< (p2 &&& 31))) 4096) (some ((q3 + (v.2.2 19 (((p0 ||| ((1 : Int32) <<< (p1 &&& 31))) ||| ((1 : Int32) <<< (p2 &&& 31)))).toNatClampNeg)))))))
set_option maxRecDepth 20000 in
theorem c_X12_pairs {l : Launch} {D : va_G} {dT : Nat → ClassId} {a : Nat → Nat} {v : MS} {p0 : Int32} {p1 : Int32} {p2 : Int32} {res : Int32} (hf : f_X12_pairs v p0 p1 p2 = some res) : CTi l yX12_pairs cX12_pairs 4 (some .int) ({ frames := 1, cells := 0, slots := 0, locals := 21 } : Room) D dT [.ref (a 0), .int p0, .int p1, .int p2] ([wM dT a v]) ([wM dT a v]) res := by
  refine CTi.of (by decide) (Nat.le_of_ble_eq_true rfl) rfl ?_
  intro p e s m args below meth c A C
  unfold f_X12_pairs at hf
  refine wa_aload_n C 0 1 dX12_pairs_0 rfl rfl ?_
  refine wa_get C 4 0 0 34 dX12_pairs_1 rfl iX12 q1483 rfl (Nat.le_of_ble_eq_true rfl) rfl rfl rfl ?_
  refine wa_bipush (v := 50) C 6 dX12_pairs_4 rfl rfl ?_
  refine wa_iload_n C 2 7 dX12_pairs_6 rfl rfl ?_
  refine wa_iadd C 8 dX12_pairs_7 rfl ?_
  obtain ⟨g1, hf⟩ := grd_ex hf
  refine wa_iald C 9 0 10 dX12_pairs_8 rfl rfl rfl (vi_in g1) ?_
  refine wa_aload_n C 0 10 dX12_pairs_9 rfl rfl ?_
  refine wa_get C 13 0 0 34 dX12_pairs_10 rfl iX12 q1483 rfl (Nat.le_of_ble_eq_true rfl) rfl rfl rfl ?_
  refine wa_bipush (v := 50) C 15 dX12_pairs_13 rfl rfl ?_
  refine wa_iload_n C 3 16 dX12_pairs_15 rfl rfl ?_
  refine wa_iadd C 17 dX12_pairs_16 rfl ?_
  obtain ⟨g2, hf⟩ := grd_ex hf
  refine wa_iald C 18 0 10 dX12_pairs_17 rfl rfl rfl (vi_in g2) ?_
  obtain ⟨q3, hq3, hf⟩ := bind_ex hf
  refine wa_callS0i (As := [.int (v.2.2 10 (((50 : Int32) + p1)).toNatClampNeg), .int (v.2.2 10 (((50 : Int32) + p2)).toNatClampNeg)]) C 21 dX12_pairs_18 rfl ks_X12_427 (c_X12_apart hq3) ⟨rfl, rfl⟩ ⟨Nat.le_of_ble_eq_true rfl, Nat.le_of_ble_eq_true rfl⟩ rfl rfl ⟨Nat.zero_le _, Nat.zero_le _⟩ (Nat.le_of_ble_eq_true rfl) ?_
  refine wa_aload_n C 0 22 dX12_pairs_21 rfl rfl ?_
  refine wa_get C 25 0 0 47 dX12_pairs_22 rfl iX12 q1496 rfl (Nat.le_of_ble_eq_true rfl) rfl rfl rfl ?_
  refine wa_iload_n C 1 26 dX12_pairs_25 rfl rfl ?_
  refine wa_iconst (v := 1) C 27 dX12_pairs_26 rfl rfl ?_
  refine wa_iload_n C 2 28 dX12_pairs_27 rfl rfl ?_
  refine wa_ishl C 29 dX12_pairs_28 rfl ?_
  refine wa_ior C 30 dX12_pairs_29 rfl ?_
  refine wa_iconst (v := 1) C 31 dX12_pairs_30 rfl rfl ?_
  refine wa_iload_n C 3 32 dX12_pairs_31 rfl rfl ?_
  refine wa_ishl C 33 dX12_pairs_32 rfl ?_
  refine wa_ior C 34 dX12_pairs_33 rfl ?_
  obtain ⟨g4, hf⟩ := grd_ex hf
  refine wa_iald C 35 0 19 dX12_pairs_34 rfl rfl rfl (vi_in g4) ?_
  refine wa_iadd C 36 dX12_pairs_35 rfl ?_
  cases hf
  exact wa_iret C dX12_pairs_36 rfl rfl
