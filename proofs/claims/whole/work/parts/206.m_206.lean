def f_X12_later (v : MS) (p0 : Int32) (p1 : Int32) : Option (Int32 × MS) := bnd (upd v.1 0 (0 : Int32), v.2) (fun y1 => (f_X12_isWhat y1 p1 (4 : Int32)).bind (fun q2 => (if q2.1 = 0 then some ((0 : Int32), q2.2) else (f_X12_isSoon q2.2 p0 (0 : Int32) (2 : Int32)).bind (fun q4 => (if q4.1 = 0 then some ((0 : Int32), q4.2) else (f_X12_goesTo q4.2 p0).bind (fun q6 => (if p1 = 0 then grd (vi (87 : Int32) 172) (some ((q6.2.2 10 ((87 : Int32)).toNatClampNeg), q6)) else (if p1 = 1 then (f_X12_greatest q6 (86 : Int32)).bind (fun q10 => some (q10.1, q10.2)) else (if p1 = 2 then (f_X12_aloneOnes q6 (86 : Int32)).bind (fun q12 => some (q12, q6)) else (if p1 = 3 then (f_X12_friendsIn q6 (86 : Int32)).bind (fun q14 => some (q14, q6)) else (f_X12_stairs q6 (86 : Int32)).bind (fun q15 => some (q15.1, q15.2))))))))))))
set_option maxRecDepth 20000 in
theorem c_X12_later {l : Launch} {D : va_G} {dT : Nat → ClassId} {a : Nat → Nat} {v : MS} {p0 : Int32} {p1 : Int32} {res : Int32 × MS} (hf : f_X12_later v p0 p1 = some res) : CTi l yX12_later cX12_later 3 (some .int) ({ frames := 7, cells := 0, slots := 0, locals := 163 } : Room) D dT [.ref (a 0), .int p0, .int p1] ([wM dT a v]) ([wM dT a res.2]) res.1 := by
  refine CTi.of (by decide) (Nat.le_of_ble_eq_true rfl) rfl ?_
  intro p e s m args below meth c A C
  unfold f_X12_later at hf
  refine wa_aload_n C 0 1 dX12_later_0 rfl rfl ?_
  refine wa_iconst (v := 0) C 2 dX12_later_1 rfl rfl ?_
  obtain ⟨y1, ey1, hf⟩ := bnd_ex hf
  refine wa_put (ws' := [wM dT a y1]) C 5 0 0 0 tyX12 dX12_later_2 rfl iX12 tyX12_ok nmX12 q1449 rfl (Nat.le_of_ble_eq_true rfl) rfl rfl rfl rfl rfl (Nat.le_of_ble_eq_true rfl) (by rw [ey1]; rfl) ?_
  refine wa_aload_n C 0 6 dX12_later_5 rfl rfl ?_
  refine wa_iload_n C 2 7 dX12_later_6 rfl rfl ?_
  refine wa_iconst (v := 4) C 8 dX12_later_7 rfl rfl ?_
  obtain ⟨q2, hq2, hf⟩ := bind_ex hf
  refine wa_callVAi (b1 := 0) (q1 := 0) (ci := 12) (As := [.int p1, .int (4 : Int32)]) C 11 dX12_later_8 rfl kv_X12_371 (c_X12_isWhat hq2) ⟨rfl, rfl⟩ ⟨Nat.le_of_ble_eq_true rfl, Nat.le_of_ble_eq_true rfl⟩ rfl rfl rfl rfl rfl ⟨Nat.zero_le _, Nat.zero_le _⟩ (Nat.le_of_ble_eq_true rfl) ?_
  refine wa_if_eq C 24 14 dX12_later_11 rfl rfl (fun c3 => ?_) (fun c3 => ?_)
  · replace hf := ite_t hf c3
    refine wa_iconst (v := 0) C 25 dX12_later_24 rfl rfl ?_
    cases hf
    exact wa_iret C dX12_later_25 rfl rfl
  · replace hf := ite_f hf c3
    refine wa_aload_n C 0 15 dX12_later_14 rfl rfl ?_
    refine wa_iload_n C 1 16 dX12_later_15 rfl rfl ?_
    refine wa_iconst (v := 0) C 17 dX12_later_16 rfl rfl ?_
    refine wa_iconst (v := 2) C 18 dX12_later_17 rfl rfl ?_
    obtain ⟨q4, hq4, hf⟩ := bind_ex hf
    refine wa_callVAi (b1 := 0) (q1 := 0) (ci := 12) (As := [.int p0, .int (0 : Int32), .int (2 : Int32)]) C 21 dX12_later_18 rfl kv_X12_402 (c_X12_isSoon hq4) ⟨rfl, rfl⟩ ⟨Nat.le_of_ble_eq_true rfl, Nat.le_of_ble_eq_true rfl⟩ rfl rfl rfl rfl rfl ⟨Nat.zero_le _, Nat.zero_le _⟩ (Nat.le_of_ble_eq_true rfl) ?_
    refine wa_if_ne C 26 24 dX12_later_21 rfl rfl (fun c5 => ?_) (fun c5 => ?_)
    · replace hf := ite_f hf c5
      refine wa_aload_n C 0 27 dX12_later_26 rfl rfl ?_
      refine wa_iload_n C 1 28 dX12_later_27 rfl rfl ?_
      obtain ⟨q6, hq6, hf⟩ := bind_ex hf
      refine wa_callVAv (b1 := 0) (q1 := 0) (ci := 12) (As := [.int p0]) C 31 dX12_later_28 rfl kv_X12_405 (c_X12_goesTo hq6) ⟨rfl, rfl⟩ ⟨Nat.le_of_ble_eq_true rfl, Nat.le_of_ble_eq_true rfl⟩ rfl rfl rfl rfl rfl ⟨Nat.zero_le _, Nat.zero_le _⟩ (Nat.le_of_ble_eq_true rfl) ?_
      refine wa_iload_n C 2 32 dX12_later_31 rfl rfl ?_
      by_cases c7 : p1 = 0
      · replace hf := ite_t hf c7
        refine wa_ts C 0 (32) 64 dX12_later_32 c7 (by decide) (by decide) rfl rfl ?_
        refine wa_aload_n C 0 65 dX12_later_64 rfl rfl ?_
        refine wa_get C 68 0 0 34 dX12_later_65 rfl iX12 q1483 rfl (Nat.le_of_ble_eq_true rfl) rfl rfl rfl ?_
        refine wa_bipush (v := 87) C 70 dX12_later_68 rfl rfl ?_
        obtain ⟨g8, hf⟩ := grd_ex hf
        refine wa_iald C 71 0 10 dX12_later_70 rfl rfl rfl (vi_in g8) ?_
        cases hf
        exact wa_iret C dX12_later_71 rfl rfl
      · replace hf := ite_f hf c7
        by_cases c9 : p1 = 1
        · replace hf := ite_t hf c9
          refine wa_ts C 1 (40) 72 dX12_later_32 c9 (by decide) (by decide) rfl rfl ?_
          refine wa_aload_n C 0 73 dX12_later_72 rfl rfl ?_
          refine wa_bipush (v := 86) C 75 dX12_later_73 rfl rfl ?_
          obtain ⟨q10, hq10, hf⟩ := bind_ex hf
          refine wa_callVAi (b1 := 0) (q1 := 0) (ci := 12) (As := [.int (86 : Int32)]) C 78 dX12_later_75 rfl kv_X12_350 (c_X12_greatest hq10) ⟨rfl, rfl⟩ ⟨Nat.le_of_ble_eq_true rfl, Nat.le_of_ble_eq_true rfl⟩ rfl rfl rfl rfl rfl ⟨Nat.zero_le _, Nat.zero_le _⟩ (Nat.le_of_ble_eq_true rfl) ?_
          cases hf
          exact wa_iret C dX12_later_78 rfl rfl
        · replace hf := ite_f hf c9
          by_cases c11 : p1 = 2
          · replace hf := ite_t hf c11
            refine wa_ts C 2 (47) 79 dX12_later_32 c11 (by decide) (by decide) rfl rfl ?_
            refine wa_aload_n C 0 80 dX12_later_79 rfl rfl ?_
            refine wa_bipush (v := 86) C 82 dX12_later_80 rfl rfl ?_
            obtain ⟨q12, hq12, hf⟩ := bind_ex hf
            refine wa_callVAi (b1 := 0) (q1 := 0) (ci := 12) (As := [.int (86 : Int32)]) C 85 dX12_later_82 rfl kv_X12_353 (c_X12_aloneOnes hq12) ⟨rfl, rfl⟩ ⟨Nat.le_of_ble_eq_true rfl, Nat.le_of_ble_eq_true rfl⟩ rfl rfl rfl rfl rfl ⟨Nat.zero_le _, Nat.zero_le _⟩ (Nat.le_of_ble_eq_true rfl) ?_
            cases hf
            exact wa_iret C dX12_later_85 rfl rfl
          · replace hf := ite_f hf c11
            by_cases c13 : p1 = 3
            · replace hf := ite_t hf c13
              refine wa_ts C 3 (54) 86 dX12_later_32 c13 (by decide) (by decide) rfl rfl ?_
              refine wa_aload_n C 0 87 dX12_later_86 rfl rfl ?_
              refine wa_bipush (v := 86) C 89 dX12_later_87 rfl rfl ?_
              obtain ⟨q14, hq14, hf⟩ := bind_ex hf
              refine wa_callVAi (b1 := 0) (q1 := 0) (ci := 12) (As := [.int (86 : Int32)]) C 92 dX12_later_89 rfl kv_X12_362 (c_X12_friendsIn hq14) ⟨rfl, rfl⟩ ⟨Nat.le_of_ble_eq_true rfl, Nat.le_of_ble_eq_true rfl⟩ rfl rfl rfl rfl rfl ⟨Nat.zero_le _, Nat.zero_le _⟩ (Nat.le_of_ble_eq_true rfl) ?_
              cases hf
              exact wa_iret C dX12_later_92 rfl rfl
            · replace hf := ite_f hf c13
              refine wa_tsd C 93 dX12_later_32 (ts_out (0) 4 (nts_s (nts_s (nts_s (nts_s nts_0 rfl c7) rfl c9) rfl c11) rfl c13)) rfl ?_
              refine wa_aload_n C 0 94 dX12_later_93 rfl rfl ?_
              refine wa_bipush (v := 86) C 96 dX12_later_94 rfl rfl ?_
              obtain ⟨q15, hq15, hf⟩ := bind_ex hf
              refine wa_callVAi (b1 := 0) (q1 := 0) (ci := 12) (As := [.int (86 : Int32)]) C 99 dX12_later_96 rfl kv_X12_356 (c_X12_stairs hq15) ⟨rfl, rfl⟩ ⟨Nat.le_of_ble_eq_true rfl, Nat.le_of_ble_eq_true rfl⟩ rfl rfl rfl rfl rfl ⟨Nat.zero_le _, Nat.zero_le _⟩ (Nat.le_of_ble_eq_true rfl) ?_
              cases hf
              exact wa_iret C dX12_later_99 rfl rfl
    · replace hf := ite_t hf c5
      refine wa_iconst (v := 0) C 25 dX12_later_24 rfl rfl ?_
      cases hf
      exact wa_iret C dX12_later_25 rfl rfl
def f_X12_areIn (v : MS) (p0 : Int32) (p1 : Int32) : Option (Int32) := grd (vi ((88 : Int32) + p0) 172) (grd (vi ((88 : Int32) + p1) 172) ((if (v.2.2 10 (((88 : Int32) + p0)).toNatClampNeg) = (v.2.2 10 (((88 : Int32) + p1)).toNatClampNeg) then some ((1 : Int32)) else some ((0 : Int32)))))
set_option maxRecDepth 20000 in
theorem c_X12_areIn {l : Launch} {D : va_G} {dT : Nat → ClassId} {a : Nat → Nat} {v : MS} {p0 : Int32} {p1 : Int32} {res : Int32} (hf : f_X12_areIn v p0 p1 = some res) : CTi l yX12_areIn cX12_areIn 3 (some .boolean) ({ frames := 0, cells := 0, slots := 0, locals := 0 } : Room) D dT [.ref (a 0), .int p0, .int p1] ([wM dT a v]) ([wM dT a v]) res := by
  refine CTi.of (by decide) (Nat.le_of_ble_eq_true rfl) rfl ?_
  intro p e s m args below meth c A C
  unfold f_X12_areIn at hf
  refine wa_aload_n C 0 1 dX12_areIn_0 rfl rfl ?_
  refine wa_get C 4 0 0 34 dX12_areIn_1 rfl iX12 q1483 rfl (Nat.le_of_ble_eq_true rfl) rfl rfl rfl ?_
  refine wa_bipush (v := 88) C 6 dX12_areIn_4 rfl rfl ?_
  refine wa_iload_n C 1 7 dX12_areIn_6 rfl rfl ?_
  refine wa_iadd C 8 dX12_areIn_7 rfl ?_
  obtain ⟨g1, hf⟩ := grd_ex hf
  refine wa_iald C 9 0 10 dX12_areIn_8 rfl rfl rfl (vi_in g1) ?_
  refine wa_aload_n C 0 10 dX12_areIn_9 rfl rfl ?_
  refine wa_get C 13 0 0 34 dX12_areIn_10 rfl iX12 q1483 rfl (Nat.le_of_ble_eq_true rfl) rfl rfl rfl ?_
  refine wa_bipush (v := 88) C 15 dX12_areIn_13 rfl rfl ?_
  refine wa_iload_n C 2 16 dX12_areIn_15 rfl rfl ?_
  refine wa_iadd C 17 dX12_areIn_16 rfl ?_
  obtain ⟨g2, hf⟩ := grd_ex hf
  refine wa_iald C 18 0 10 dX12_areIn_17 rfl rfl rfl (vi_in g2) ?_
  refine wa_icmp_ne C 25 21 dX12_areIn_18 rfl rfl (fun c3 => ?_) (fun c3 => ?_)
  · replace hf := ite_f hf c3
    refine wa_iconst (v := 0) C 26 dX12_areIn_25 rfl rfl ?_
    cases hf
    exact wa_zret C dX12_areIn_26 rfl rfl rfl
  · replace hf := ite_t hf c3
    refine wa_iconst (v := 1) C 22 dX12_areIn_21 rfl rfl ?_
    refine wa_goto C 26 dX12_areIn_22 rfl ?_
    cases hf
    exact wa_zret C dX12_areIn_26 rfl rfl rfl
theorem kv_X12_408 : KV RX12 408 yX12_areIn cX12_areIn 3 (some .boolean) 2 := KV.mk q1989 q1991 qs110 q13 q1992 ⟨by decide, by decide, by decide +kernel⟩
def f_X12_whenIn_L3 (l1 : Int32) (l2 : Int32) (l3 : Int32) (l4 : Int32) : Nat → Int32 → MS → Option (Int32 × MS)
  | 0, _, _ => none
  | n + 1, l5, z0 => (if l4 < l5 then some ((9999 : Int32), z0) else (f_X12_areIn z0 l1 l2).bind (fun q2 => (if q2 = l3 then some (l5, z0) else (f_X12_eveningGoes z0 (86 : Int32)).bind (fun q4 => bnd (l5 + 1) (fun x5 => f_X12_whenIn_L3 l1 l2 l3 l4 n x5 q4)))))
def f_X12_whenIn (v : MS) (p0 : Int32) (p1 : Int32) (p2 : Int32) (p3 : Int32) : Option (Int32 × MS) := f_X12_whenIn_L3 p0 p1 p2 p3 FUEL (0 : Int32) v
set_option maxRecDepth 20000 in
theorem w_X12_whenIn_L3 {p : Program} {l : Launch} {e : Env} {s : State} {m : MethodId} {args : Array Value} {below : List Frame} {meth : Method} {c : Code} {D : va_G} {A : Nat → Prop} {dT : Nat → ClassId} {a : Nat → Nat} {res : Int32 × MS} {l1 : Int32} {l2 : Int32} {l3 : Int32} {l4 : Int32} (C : Cx p s m args meth c cX12_whenIn 6 RX12 (some .int) D A dT) : ∀ (n : Nat) (l5 : Int32) (z0 : MS), f_X12_whenIn_L3 l1 l2 l3 l4 n l5 z0 = some res → WA p l e ({ frames := 5, cells := 0, slots := 0, locals := 120 } : Room) s m args below meth c (MQ below (QI D dT A ([wM dT a res.2]) res.1) args s 0 0 A) D A 0 0 6 3 ([wM dT a z0]) [(0, .ref (a 0)), (1, .int l1), (2, .int l2), (3, .int l3), (4, .int l4), (5, .int l5)] [] := by
  intro n
  induction n with
  | zero => intro l5 z0 hf; cases hf
  | succ n ih =>
    intro l5 z0 hf
    unfold f_X12_whenIn_L3 at hf
    refine wa_iload C 5 5 dX12_whenIn_3 rfl rfl ?_
    refine wa_iload C 4 7 dX12_whenIn_5 rfl rfl ?_
    refine wa_icmp_gt C 35 10 dX12_whenIn_7 rfl rfl (fun c1 => ?_) (fun c1 => ?_)
    · replace hf := ite_t hf c1
      refine wa_sipush (v := 9999) C 38 dX12_whenIn_35 rfl rfl ?_
      cases hf
      exact wa_iret C dX12_whenIn_38 rfl rfl
    · replace hf := ite_f hf c1
      refine wa_aload_n C 0 11 dX12_whenIn_10 rfl rfl ?_
      refine wa_iload_n C 1 12 dX12_whenIn_11 rfl rfl ?_
      refine wa_iload_n C 2 13 dX12_whenIn_12 rfl rfl ?_
      obtain ⟨q2, hq2, hf⟩ := bind_ex hf
      refine wa_callVAi (b1 := 0) (q1 := 0) (ci := 12) (As := [.int l1, .int l2]) C 16 dX12_whenIn_13 rfl kv_X12_408 (c_X12_areIn hq2) ⟨rfl, rfl⟩ ⟨Nat.le_of_ble_eq_true rfl, Nat.le_of_ble_eq_true rfl⟩ rfl rfl rfl rfl rfl ⟨Nat.zero_le _, Nat.zero_le _⟩ (Nat.le_of_ble_eq_true rfl) ?_
      refine wa_iload_n C 3 17 dX12_whenIn_16 rfl rfl ?_
      refine wa_icmp_ne C 23 20 dX12_whenIn_17 rfl rfl (fun c3 => ?_) (fun c3 => ?_)
      · replace hf := ite_f hf c3
        refine wa_aload_n C 0 24 dX12_whenIn_23 rfl rfl ?_
        refine wa_bipush (v := 86) C 26 dX12_whenIn_24 rfl rfl ?_
        obtain ⟨q4, hq4, hf⟩ := bind_ex hf
        refine wa_callVAv (b1 := 0) (q1 := 0) (ci := 12) (As := [.int (86 : Int32)]) C 29 dX12_whenIn_26 rfl kv_X12_334 (c_X12_eveningGoes hq4) ⟨rfl, rfl⟩ ⟨Nat.le_of_ble_eq_true rfl, Nat.le_of_ble_eq_true rfl⟩ rfl rfl rfl rfl rfl ⟨Nat.zero_le _, Nat.zero_le _⟩ (Nat.le_of_ble_eq_true rfl) ?_
        obtain ⟨x5, ex5, hf⟩ := bnd_ex hf
        refine wa_iinc (v := x5) (lv' := [(0, .ref (a 0)), (1, .int l1), (2, .int l2), (3, .int l3), (4, .int l4), (5, .int x5)]) C 5 [1, 2, 3, 4, 5, 0] 32 dX12_whenIn_29 rfl rfl (by rw [ex5]; rfl) (Nat.le_of_ble_eq_true rfl) rfl ?_
        refine wa_goto C 3 dX12_whenIn_32 rfl ?_
        exact ih x5 q4 hf
      · replace hf := ite_t hf c3
        refine wa_iload C 5 22 dX12_whenIn_20 rfl rfl ?_
        cases hf
        exact wa_iret C dX12_whenIn_22 rfl rfl
set_option maxRecDepth 20000 in
theorem c_X12_whenIn {l : Launch} {D : va_G} {dT : Nat → ClassId} {a : Nat → Nat} {v : MS} {p0 : Int32} {p1 : Int32} {p2 : Int32} {p3 : Int32} {res : Int32 × MS} (hf : f_X12_whenIn v p0 p1 p2 p3 = some res) : CTi l yX12_whenIn cX12_whenIn 6 (some .int) ({ frames := 5, cells := 0, slots := 0, locals := 120 } : Room) D dT [.ref (a 0), .int p0, .int p1, .int p2, .int p3] ([wM dT a v]) ([wM dT a res.2]) res.1 := by
  refine CTi.of (by decide) (Nat.le_of_ble_eq_true rfl) rfl ?_
  intro p e s m args below meth c A C
  unfold f_X12_whenIn at hf
  refine wa_iconst (v := 0) C 1 dX12_whenIn_0 rfl rfl ?_
  refine wa_istore (lv' := [(0, .ref (a 0)), (1, .int p0), (2, .int p1), (3, .int p2), (4, .int p3), (5, .int (0 : Int32))]) C [1, 2, 3, 4, 5, 0] 3 dX12_whenIn_1 rfl (Nat.le_of_ble_eq_true rfl) rfl ?_
  exact w_X12_whenIn_L3 C FUEL (0 : Int32) v hf
theorem kv_X12_411 : KV RX12 411 yX12_whenIn cX12_whenIn 6 (some .int) 4 := KV.mk q1985 q1987 qs109 q13 q1988 ⟨by decide, by decide, by decide +kernel⟩
def f_X12_meet_J55 (t0 : Int32) (t1 : Int32) (t2 : Int32) (z0 : MS) : Option (Int32 × MS) := (f_X12_whenIn z0 t2 t1 t0 (100 : Int32)).bind (fun q11 => (if q11.1 = (9999 : Int32) then some ((-1 : Int32), q11.2) else some (q11.1, q11.2)))
def f_X12_meet (v : MS) (p0 : Int32) (p1 : Int32) (p2 : Int32) : Option (Int32 × MS) := bnd (upd v.1 0 (0 : Int32), v.2) (fun y1 => (f_X12_isPerson y1 p0).bind (fun q2 => (if q2.1 = 0 then some ((0 : Int32), q2.2) else (f_X12_isPerson q2.2 p1).bind (fun q4 => (if q4.1 = 0 then some ((0 : Int32), q4.2) else (f_X12_isWhat q4.2 p2 (1 : Int32)).bind (fun q6 => (if q6.1 = 0 then some ((0 : Int32), q6.2) else (if p0 = p1 then some ((-1 : Int32), q6.2) else (f_X12_tries q6.2).bind (fun q9 => (if p2 = 0 then f_X12_meet_J55 (1 : Int32) p1 p0 q9 else f_X12_meet_J55 (0 : Int32) p1 p0 q9))))))))))
set_option maxRecDepth 20000 in
theorem w_X12_meet_J55 {p : Program} {l : Launch} {e : Env} {s : State} {m : MethodId} {args : Array Value} {below : List Frame} {meth : Method} {c : Code} {D : va_G} {A : Nat → Prop} {dT : Nat → ClassId} {a : Nat → Nat} {res : Int32 × MS} (C : Cx p s m args meth c cX12_meet 5 RX12 (some .int) D A dT) : ∀ (t0 : Int32) (t1 : Int32) (t2 : Int32) (z0 : MS), f_X12_meet_J55 t0 t1 t2 z0 = some res → WA p l e ({ frames := 6, cells := 0, slots := 0, locals := 145 } : Room) s m args below meth c (MQ below (QI D dT A ([wM dT a res.2]) res.1) args s 0 0 A) D A 0 0 5 55 ([wM dT a z0]) [] [.int t0, .int t1, .int t2, .ref (a 0)] := by
  intro t0 t1 t2 z0 hf
  unfold f_X12_meet_J55 at hf
  refine wa_bipush (v := 100) C 57 dX12_meet_55 rfl rfl ?_
  obtain ⟨q11, hq11, hf⟩ := bind_ex hf
  refine wa_callVAi (b1 := 0) (q1 := 0) (ci := 12) (As := [.int t2, .int t1, .int t0, .int (100 : Int32)]) C 60 dX12_meet_57 rfl kv_X12_411 (c_X12_whenIn hq11) ⟨rfl, rfl⟩ ⟨Nat.le_of_ble_eq_true rfl, Nat.le_of_ble_eq_true rfl⟩ rfl rfl rfl rfl rfl ⟨Nat.zero_le _, Nat.zero_le _⟩ (Nat.le_of_ble_eq_true rfl) ?_
  refine wa_istore (lv' := [(4, .int q11.1)]) C [0] 62 dX12_meet_60 rfl (Nat.le_of_ble_eq_true rfl) rfl ?_
  refine wa_iload C 0 64 dX12_meet_62 rfl rfl ?_
  refine wa_sipush (v := 9999) C 67 dX12_meet_64 rfl rfl ?_
  refine wa_icmp_ne C 74 70 dX12_meet_67 rfl rfl (fun c12 => ?_) (fun c12 => ?_)
  · replace hf := ite_f hf c12
    refine wa_iload C 0 76 dX12_meet_74 rfl rfl ?_
    cases hf
    exact wa_iret C dX12_meet_76 rfl rfl
  · replace hf := ite_t hf c12
    refine wa_iconst (v := (-1)) C 71 dX12_meet_70 rfl rfl ?_
    refine wa_goto C 76 dX12_meet_71 rfl ?_
    cases hf
    exact wa_iret C dX12_meet_76 rfl rfl
set_option maxRecDepth 20000 in
theorem c_X12_meet {l : Launch} {D : va_G} {dT : Nat → ClassId} {a : Nat → Nat} {v : MS} {p0 : Int32} {p1 : Int32} {p2 : Int32} {res : Int32 × MS} (hf : f_X12_meet v p0 p1 p2 = some res) : CTi l yX12_meet cX12_meet 5 (some .int) ({ frames := 6, cells := 0, slots := 0, locals := 145 } : Room) D dT [.ref (a 0), .int p0, .int p1, .int p2] ([wM dT a v]) ([wM dT a res.2]) res.1 := by
  refine CTi.of (by decide) (Nat.le_of_ble_eq_true rfl) rfl ?_
  intro p e s m args below meth c A C
  unfold f_X12_meet at hf
  refine wa_aload_n C 0 1 dX12_meet_0 rfl rfl ?_
  refine wa_iconst (v := 0) C 2 dX12_meet_1 rfl rfl ?_
  obtain ⟨y1, ey1, hf⟩ := bnd_ex hf
  refine wa_put (ws' := [wM dT a y1]) C 5 0 0 0 tyX12 dX12_meet_2 rfl iX12 tyX12_ok nmX12 q1449 rfl (Nat.le_of_ble_eq_true rfl) rfl rfl rfl rfl rfl (Nat.le_of_ble_eq_true rfl) (by rw [ey1]; rfl) ?_
  refine wa_aload_n C 0 6 dX12_meet_5 rfl rfl ?_
  refine wa_iload_n C 1 7 dX12_meet_6 rfl rfl ?_
  obtain ⟨q2, hq2, hf⟩ := bind_ex hf
  refine wa_callVAi (b1 := 0) (q1 := 0) (ci := 12) (As := [.int p0]) C 10 dX12_meet_7 rfl kv_X12_368 (c_X12_isPerson hq2) ⟨rfl, rfl⟩ ⟨Nat.le_of_ble_eq_true rfl, Nat.le_of_ble_eq_true rfl⟩ rfl rfl rfl rfl rfl ⟨Nat.zero_le _, Nat.zero_le _⟩ (Nat.le_of_ble_eq_true rfl) ?_
  refine wa_if_eq C 30 13 dX12_meet_10 rfl rfl (fun c3 => ?_) (fun c3 => ?_)
  · replace hf := ite_t hf c3
    refine wa_iconst (v := 0) C 31 dX12_meet_30 rfl rfl ?_
    cases hf
    exact wa_iret C dX12_meet_31 rfl rfl
  · replace hf := ite_f hf c3
    refine wa_aload_n C 0 14 dX12_meet_13 rfl rfl ?_
    refine wa_iload_n C 2 15 dX12_meet_14 rfl rfl ?_
    obtain ⟨q4, hq4, hf⟩ := bind_ex hf
    refine wa_callVAi (b1 := 0) (q1 := 0) (ci := 12) (As := [.int p1]) C 18 dX12_meet_15 rfl kv_X12_368 (c_X12_isPerson hq4) ⟨rfl, rfl⟩ ⟨Nat.le_of_ble_eq_true rfl, Nat.le_of_ble_eq_true rfl⟩ rfl rfl rfl rfl rfl ⟨Nat.zero_le _, Nat.zero_le _⟩ (Nat.le_of_ble_eq_true rfl) ?_
    refine wa_if_eq C 30 21 dX12_meet_18 rfl rfl (fun c5 => ?_) (fun c5 => ?_)
    · replace hf := ite_t hf c5
      refine wa_iconst (v := 0) C 31 dX12_meet_30 rfl rfl ?_
      cases hf
      exact wa_iret C dX12_meet_31 rfl rfl
    · replace hf := ite_f hf c5
      refine wa_aload_n C 0 22 dX12_meet_21 rfl rfl ?_
      refine wa_iload_n C 3 23 dX12_meet_22 rfl rfl ?_
      refine wa_iconst (v := 1) C 24 dX12_meet_23 rfl rfl ?_
      obtain ⟨q6, hq6, hf⟩ := bind_ex hf
      refine wa_callVAi (b1 := 0) (q1 := 0) (ci := 12) (As := [.int p2, .int (1 : Int32)]) C 27 dX12_meet_24 rfl kv_X12_371 (c_X12_isWhat hq6) ⟨rfl, rfl⟩ ⟨Nat.le_of_ble_eq_true rfl, Nat.le_of_ble_eq_true rfl⟩ rfl rfl rfl rfl rfl ⟨Nat.zero_le _, Nat.zero_le _⟩ (Nat.le_of_ble_eq_true rfl) ?_
      refine wa_if_ne C 32 30 dX12_meet_27 rfl rfl (fun c7 => ?_) (fun c7 => ?_)
      · replace hf := ite_f hf c7
        refine wa_iload_n C 1 33 dX12_meet_32 rfl rfl ?_
        refine wa_iload_n C 2 34 dX12_meet_33 rfl rfl ?_
        refine wa_icmp_ne C 39 37 dX12_meet_34 rfl rfl (fun c8 => ?_) (fun c8 => ?_)
        · replace hf := ite_f hf c8
          refine wa_aload_n C 0 40 dX12_meet_39 rfl rfl ?_
          obtain ⟨q9, hq9, hf⟩ := bind_ex hf
          refine wa_callVAv (b1 := 0) (q1 := 0) (ci := 12) (As := []) C 43 dX12_meet_40 rfl kv_X12_337 (c_X12_tries hq9) ⟨rfl, rfl⟩ ⟨Nat.le_of_ble_eq_true rfl, Nat.le_of_ble_eq_true rfl⟩ rfl rfl rfl rfl rfl ⟨Nat.zero_le _, Nat.zero_le _⟩ (Nat.le_of_ble_eq_true rfl) ?_
          refine wa_aload_n C 0 44 dX12_meet_43 rfl rfl ?_
          refine wa_iload_n C 1 45 dX12_meet_44 rfl rfl ?_
          refine wa_iload_n C 2 46 dX12_meet_45 rfl rfl ?_
          refine wa_iload_n C 3 47 dX12_meet_46 rfl rfl ?_
          refine wa_if_ne C 54 50 dX12_meet_47 rfl rfl (fun c10 => ?_) (fun c10 => ?_)
          · replace hf := ite_f hf c10
            refine wa_iconst (v := 0) C 55 dX12_meet_54 rfl rfl ?_
            refine wa_lv (lv' := []) [] rfl ?_
            exact w_X12_meet_J55 C (0 : Int32) p1 p0 q9 hf
          · replace hf := ite_t hf c10
            refine wa_iconst (v := 1) C 51 dX12_meet_50 rfl rfl ?_
            refine wa_goto C 55 dX12_meet_51 rfl ?_
            refine wa_lv (lv' := []) [] rfl ?_
            exact w_X12_meet_J55 C (1 : Int32) p1 p0 q9 hf
        · replace hf := ite_t hf c8
          refine wa_iconst (v := (-1)) C 38 dX12_meet_37 rfl rfl ?_
          cases hf
          exact wa_iret C dX12_meet_38 rfl rfl
      · replace hf := ite_t hf c7
        refine wa_iconst (v := 0) C 31 dX12_meet_30 rfl rfl ?_
        cases hf
        exact wa_iret C dX12_meet_31 rfl rfl
def f_X12_together_L43 (l1 : Int32) (l2 : Int32) (l3 : Int32) : Nat → Int32 → Int32 → MS → Option (Int32 × MS)
  | 0, _, _, _ => none
  | n + 1, l4, l5, z0 => (if l3 ≤ l5 then some (l4, z0) else (f_X12_eveningGoes z0 (86 : Int32)).bind (fun q10 => (f_X12_areIn q10 l1 l2).bind (fun q11 => (if q11 = 0 then bnd (l4 + (0 : Int32)) (fun x13 => bnd (l5 + 1) (fun x14 => f_X12_together_L43 l1 l2 l3 n x13 x14 q10)) else bnd (l4 + (1 : Int32)) (fun x15 => bnd (l5 + 1) (fun x16 => f_X12_together_L43 l1 l2 l3 n x15 x16 q10))))))
def f_X12_together (v : MS) (p0 : Int32) (p1 : Int32) (p2 : Int32) : Option (Int32 × MS) := bnd (upd v.1 0 (0 : Int32), v.2) (fun y1 => (f_X12_isPerson y1 p0).bind (fun q2 => (if q2.1 = 0 then some ((0 : Int32), q2.2) else (f_X12_isPerson q2.2 p1).bind (fun q4 => (if q4.1 = 0 then some ((0 : Int32), q4.2) else (f_X12_isSoon q4.2 p2 (1 : Int32) (2 : Int32)).bind (fun q6 => (if q6.1 = 0 then some ((0 : Int32), q6.2) else (f_X12_tries q6.2).bind (fun q8 => f_X12_together_L43 p0 p1 p2 FUEL (0 : Int32) (0 : Int32) q8))))))))
set_option maxRecDepth 20000 in
theorem w_X12_together_L43 {p : Program} {l : Launch} {e : Env} {s : State} {m : MethodId} {args : Array Value} {below : List Frame} {meth : Method} {c : Code} {D : va_G} {A : Nat → Prop} {dT : Nat → ClassId} {a : Nat → Nat} {res : Int32 × MS} {l1 : Int32} {l2 : Int32} {l3 : Int32} (C : Cx p s m args meth c cX12_together 6 RX12 (some .int) D A dT) : ∀ (n : Nat) (l4 : Int32) (l5 : Int32) (z0 : MS), f_X12_together_L43 l1 l2 l3 n l4 l5 z0 = some res → WA p l e ({ frames := 5, cells := 0, slots := 0, locals := 120 } : Room) s m args below meth c (MQ below (QI D dT A ([wM dT a res.2]) res.1) args s 0 0 A) D A 0 0 6 43 ([wM dT a z0]) [(0, .ref (a 0)), (1, .int l1), (2, .int l2), (3, .int l3), (4, .int l4), (5, .int l5)] [] := by
  intro n
  induction n with
  | zero => intro l4 l5 z0 hf; cases hf
  | succ n ih =>
    intro l4 l5 z0 hf
    unfold f_X12_together_L43 at hf
    refine wa_iload C 5 45 dX12_together_43 rfl rfl ?_
    refine wa_iload_n C 3 46 dX12_together_45 rfl rfl ?_
    refine wa_icmp_ge C 80 49 dX12_together_46 rfl rfl (fun c9 => ?_) (fun c9 => ?_)
    · replace hf := ite_t hf c9
      refine wa_iload C 4 82 dX12_together_80 rfl rfl ?_
      cases hf
      exact wa_iret C dX12_together_82 rfl rfl
    · replace hf := ite_f hf c9
      refine wa_aload_n C 0 50 dX12_together_49 rfl rfl ?_
      refine wa_bipush (v := 86) C 52 dX12_together_50 rfl rfl ?_
      obtain ⟨q10, hq10, hf⟩ := bind_ex hf
      refine wa_callVAv (b1 := 0) (q1 := 0) (ci := 12) (As := [.int (86 : Int32)]) C 55 dX12_together_52 rfl kv_X12_334 (c_X12_eveningGoes hq10) ⟨rfl, rfl⟩ ⟨Nat.le_of_ble_eq_true rfl, Nat.le_of_ble_eq_true rfl⟩ rfl rfl rfl rfl rfl ⟨Nat.zero_le _, Nat.zero_le _⟩ (Nat.le_of_ble_eq_true rfl) ?_
      refine wa_iload C 4 57 dX12_together_55 rfl rfl ?_
      refine wa_aload_n C 0 58 dX12_together_57 rfl rfl ?_
      refine wa_iload_n C 1 59 dX12_together_58 rfl rfl ?_
      refine wa_iload_n C 2 60 dX12_together_59 rfl rfl ?_
      obtain ⟨q11, hq11, hf⟩ := bind_ex hf
      refine wa_callVAi (b1 := 0) (q1 := 0) (ci := 12) (As := [.int l1, .int l2]) C 63 dX12_together_60 rfl kv_X12_408 (c_X12_areIn hq11) ⟨rfl, rfl⟩ ⟨Nat.le_of_ble_eq_true rfl, Nat.le_of_ble_eq_true rfl⟩ rfl rfl rfl rfl rfl ⟨Nat.zero_le _, Nat.zero_le _⟩ (Nat.le_of_ble_eq_true rfl) ?_
      refine wa_if_eq C 70 66 dX12_together_63 rfl rfl (fun c12 => ?_) (fun c12 => ?_)
      · replace hf := ite_t hf c12
        refine wa_iconst (v := 0) C 71 dX12_together_70 rfl rfl ?_
        refine wa_iadd C 72 dX12_together_71 rfl ?_
        obtain ⟨x13, ex13, hf⟩ := bnd_ex hf
        refine wa_topi ex13 ?_
        refine wa_istore (lv' := [(0, .ref (a 0)), (1, .int l1), (2, .int l2), (3, .int l3), (4, .int x13), (5, .int l5)]) C [1, 2, 3, 4, 0, 5] 74 dX12_together_72 rfl (Nat.le_of_ble_eq_true rfl) rfl ?_
        obtain ⟨x14, ex14, hf⟩ := bnd_ex hf
        refine wa_iinc (v := x14) (lv' := [(0, .ref (a 0)), (1, .int l1), (2, .int l2), (3, .int l3), (4, .int x13), (5, .int x14)]) C 5 [1, 2, 3, 4, 5, 0] 77 dX12_together_74 rfl rfl (by rw [ex14]; rfl) (Nat.le_of_ble_eq_true rfl) rfl ?_
        refine wa_goto C 43 dX12_together_77 rfl ?_
        exact ih x13 x14 q10 hf
      · replace hf := ite_f hf c12
        refine wa_iconst (v := 1) C 67 dX12_together_66 rfl rfl ?_
        refine wa_goto C 71 dX12_together_67 rfl ?_
        refine wa_iadd C 72 dX12_together_71 rfl ?_
        obtain ⟨x15, ex15, hf⟩ := bnd_ex hf
        refine wa_topi ex15 ?_
        refine wa_istore (lv' := [(0, .ref (a 0)), (1, .int l1), (2, .int l2), (3, .int l3), (4, .int x15), (5, .int l5)]) C [1, 2, 3, 4, 0, 5] 74 dX12_together_72 rfl (Nat.le_of_ble_eq_true rfl) rfl ?_
        obtain ⟨x16, ex16, hf⟩ := bnd_ex hf
        refine wa_iinc (v := x16) (lv' := [(0, .ref (a 0)), (1, .int l1), (2, .int l2), (3, .int l3), (4, .int x15), (5, .int x16)]) C 5 [1, 2, 3, 4, 5, 0] 77 dX12_together_74 rfl rfl (by rw [ex16]; rfl) (Nat.le_of_ble_eq_true rfl) rfl ?_
        refine wa_goto C 43 dX12_together_77 rfl ?_
        exact ih x15 x16 q10 hf
set_option maxRecDepth 20000 in
theorem c_X12_together {l : Launch} {D : va_G} {dT : Nat → ClassId} {a : Nat → Nat} {v : MS} {p0 : Int32} {p1 : Int32} {p2 : Int32} {res : Int32 × MS} (hf : f_X12_together v p0 p1 p2 = some res) : CTi l yX12_together cX12_together 6 (some .int) ({ frames := 5, cells := 0, slots := 0, locals := 120 } : Room) D dT [.ref (a 0), .int p0, .int p1, .int p2] ([wM dT a v]) ([wM dT a res.2]) res.1 := by
  refine CTi.of (by decide) (Nat.le_of_ble_eq_true rfl) rfl ?_
  intro p e s m args below meth c A C
  unfold f_X12_together at hf
  refine wa_aload_n C 0 1 dX12_together_0 rfl rfl ?_
  refine wa_iconst (v := 0) C 2 dX12_together_1 rfl rfl ?_
  obtain ⟨y1, ey1, hf⟩ := bnd_ex hf
  refine wa_put (ws' := [wM dT a y1]) C 5 0 0 0 tyX12 dX12_together_2 rfl iX12 tyX12_ok nmX12 q1449 rfl (Nat.le_of_ble_eq_true rfl) rfl rfl rfl rfl rfl (Nat.le_of_ble_eq_true rfl) (by rw [ey1]; rfl) ?_
  refine wa_aload_n C 0 6 dX12_together_5 rfl rfl ?_
  refine wa_iload_n C 1 7 dX12_together_6 rfl rfl ?_
  obtain ⟨q2, hq2, hf⟩ := bind_ex hf
  refine wa_callVAi (b1 := 0) (q1 := 0) (ci := 12) (As := [.int p0]) C 10 dX12_together_7 rfl kv_X12_368 (c_X12_isPerson hq2) ⟨rfl, rfl⟩ ⟨Nat.le_of_ble_eq_true rfl, Nat.le_of_ble_eq_true rfl⟩ rfl rfl rfl rfl rfl ⟨Nat.zero_le _, Nat.zero_le _⟩ (Nat.le_of_ble_eq_true rfl) ?_
  refine wa_if_eq C 31 13 dX12_together_10 rfl rfl (fun c3 => ?_) (fun c3 => ?_)
  · replace hf := ite_t hf c3
    refine wa_iconst (v := 0) C 32 dX12_together_31 rfl rfl ?_
    cases hf
    exact wa_iret C dX12_together_32 rfl rfl
  · replace hf := ite_f hf c3
    refine wa_aload_n C 0 14 dX12_together_13 rfl rfl ?_
    refine wa_iload_n C 2 15 dX12_together_14 rfl rfl ?_
    obtain ⟨q4, hq4, hf⟩ := bind_ex hf
    refine wa_callVAi (b1 := 0) (q1 := 0) (ci := 12) (As := [.int p1]) C 18 dX12_together_15 rfl kv_X12_368 (c_X12_isPerson hq4) ⟨rfl, rfl⟩ ⟨Nat.le_of_ble_eq_true rfl, Nat.le_of_ble_eq_true rfl⟩ rfl rfl rfl rfl rfl ⟨Nat.zero_le _, Nat.zero_le _⟩ (Nat.le_of_ble_eq_true rfl) ?_
    refine wa_if_eq C 31 21 dX12_together_18 rfl rfl (fun c5 => ?_) (fun c5 => ?_)
    · replace hf := ite_t hf c5
      refine wa_iconst (v := 0) C 32 dX12_together_31 rfl rfl ?_
      cases hf
      exact wa_iret C dX12_together_32 rfl rfl
    · replace hf := ite_f hf c5
      refine wa_aload_n C 0 22 dX12_together_21 rfl rfl ?_
      refine wa_iload_n C 3 23 dX12_together_22 rfl rfl ?_
      refine wa_iconst (v := 1) C 24 dX12_together_23 rfl rfl ?_
      refine wa_iconst (v := 2) C 25 dX12_together_24 rfl rfl ?_
      obtain ⟨q6, hq6, hf⟩ := bind_ex hf
      refine wa_callVAi (b1 := 0) (q1 := 0) (ci := 12) (As := [.int p2, .int (1 : Int32), .int (2 : Int32)]) C 28 dX12_together_25 rfl kv_X12_402 (c_X12_isSoon hq6) ⟨rfl, rfl⟩ ⟨Nat.le_of_ble_eq_true rfl, Nat.le_of_ble_eq_true rfl⟩ rfl rfl rfl rfl rfl ⟨Nat.zero_le _, Nat.zero_le _⟩ (Nat.le_of_ble_eq_true rfl) ?_
      refine wa_if_ne C 33 31 dX12_together_28 rfl rfl (fun c7 => ?_) (fun c7 => ?_)
      · replace hf := ite_f hf c7
        refine wa_iconst (v := 0) C 34 dX12_together_33 rfl rfl ?_
        refine wa_istore (lv' := [(0, .ref (a 0)), (1, .int p0), (2, .int p1), (3, .int p2), (4, .int (0 : Int32))]) C [1, 2, 3, 4, 0] 36 dX12_together_34 rfl (Nat.le_of_ble_eq_true rfl) rfl ?_
        refine wa_aload_n C 0 37 dX12_together_36 rfl rfl ?_
        obtain ⟨q8, hq8, hf⟩ := bind_ex hf
        refine wa_callVAv (b1 := 0) (q1 := 0) (ci := 12) (As := []) C 40 dX12_together_37 rfl kv_X12_337 (c_X12_tries hq8) ⟨rfl, rfl⟩ ⟨Nat.le_of_ble_eq_true rfl, Nat.le_of_ble_eq_true rfl⟩ rfl rfl rfl rfl rfl ⟨Nat.zero_le _, Nat.zero_le _⟩ (Nat.le_of_ble_eq_true rfl) ?_
        refine wa_iconst (v := 0) C 41 dX12_together_40 rfl rfl ?_
        refine wa_istore (lv' := [(0, .ref (a 0)), (1, .int p0), (2, .int p1), (3, .int p2), (4, .int (0 : Int32)), (5, .int (0 : Int32))]) C [1, 2, 3, 4, 5, 0] 43 dX12_together_41 rfl (Nat.le_of_ble_eq_true rfl) rfl ?_
        exact w_X12_together_L43 C FUEL (0 : Int32) (0 : Int32) q8 hf
      · replace hf := ite_t hf c7
        refine wa_iconst (v := 0) C 32 dX12_together_31 rfl rfl ?_
        cases hf
        exact wa_iret C dX12_together_32 rfl rfl
def f_X12_goes_J97 (k39 : Int32 → Int32 → Int32 → Int32 → MS → Option (Int32 × MS)) (l1 : Int32) (l2 : Int32) (l3 : Int32) (l4 : Int32) (l6 : Int32) (t0 : Int32) (z0 : MS) : Option (Int32 × MS) := (if t0 ≤ l4 then bnd (l6 + 1) (fun x14 => k39 l3 l4 t0 x14 z0) else bnd (l6 + 1) (fun x15 => k39 l3 t0 t0 x15 z0))
def f_X12_goes_J84 (k39 : Int32 → Int32 → Int32 → Int32 → MS → Option (Int32 × MS)) (l1 : Int32) (l2 : Int32) (l3 : Int32) (l4 : Int32) (l5 : Int32) (l6 : Int32) (l7 : Int32) (z0 : MS) : Option (Int32 × MS) := (if l7 = 0 then f_X12_goes_J97 (k39) l1 l2 l3 l4 l6 (l5 + (1 : Int32)) z0 else f_X12_goes_J97 (k39) l1 l2 l3 l4 l6 (0 : Int32) z0)
def f_X12_goes_J69 (k39 : Int32 → Int32 → Int32 → Int32 → MS → Option (Int32 × MS)) (l1 : Int32) (l2 : Int32) (l3 : Int32) (l4 : Int32) (l5 : Int32) (l6 : Int32) (t0 : Int32) (z0 : MS) : Option (Int32 × MS) := (if t0 = 0 then f_X12_goes_J84 (k39) l1 l2 l3 l4 l5 l6 t0 z0 else (if l3 = (-1 : Int32) then f_X12_goes_J84 (k39) l1 l2 l6 l4 l5 l6 t0 z0 else f_X12_goes_J84 (k39) l1 l2 l3 l4 l5 l6 t0 z0))
def f_X12_goes_L39 (l1 : Int32) (l2 : Int32) : Nat → Int32 → Int32 → Int32 → Int32 → MS → Option (Int32 × MS)
  | 0, _, _, _, _, _ => none
  | n + 1, l3, l4, l5, l6, z0 => (if (100 : Int32) < l6 then (if l2 = 0 then some (l3, z0) else some (l4, z0)) else (f_X12_eveningGoes z0 (86 : Int32)).bind (fun q9 => (if (((q9.1 41) >>> (l1 &&& 31)) &&& (1 : Int32)) = (1 : Int32) then f_X12_goes_J69 (f_X12_goes_L39 l1 l2 n) l1 l2 l3 l4 l5 l6 (1 : Int32) q9 else f_X12_goes_J69 (f_X12_goes_L39 l1 l2 n) l1 l2 l3 l4 l5 l6 (0 : Int32) q9)))
def f_X12_goes (v : MS) (p0 : Int32) (p1 : Int32) : Option (Int32 × MS) := bnd (upd v.1 0 (0 : Int32), v.2) (fun y1 => (f_X12_isPerson y1 p0).bind (fun q2 => (if q2.1 = 0 then some ((0 : Int32), q2.2) else (f_X12_isWhat q2.2 p1 (1 : Int32)).bind (fun q4 => (if q4.1 = 0 then some ((0 : Int32), q4.2) else (f_X12_tries q4.2).bind (fun q6 => f_X12_goes_L39 p0 p1 FUEL (-1 : Int32) (0 : Int32) (0 : Int32) (1 : Int32) q6))))))
set_option maxRecDepth 20000 in
theorem w_X12_goes_J97 {p : Program} {l : Launch} {e : Env} {s : State} {m : MethodId} {args : Array Value} {below : List Frame} {meth : Method} {c : Code} {D : va_G} {A : Nat → Prop} {dT : Nat → ClassId} {a : Nat → Nat} {res : Int32 × MS} {l1 : Int32} {l2 : Int32} (C : Cx p s m args meth c cX12_goes 8 RX12 (some .int) D A dT) {k39 : Int32 → Int32 → Int32 → Int32 → MS → Option (Int32 × MS)} (hk39 : ∀ (l3 : Int32) (l4 : Int32) (l5 : Int32) (l6 : Int32) (z0 : MS), k39 l3 l4 l5 l6 z0 = some res → WA p l e ({ frames := 5, cells := 0, slots := 0, locals := 120 } : Room) s m args below meth c (MQ below (QI D dT A ([wM dT a res.2]) res.1) args s 0 0 A) D A 0 0 8 39 ([wM dT a z0]) [(0, .ref (a 0)), (1, .int l1), (2, .int l2), (3, .int l3), (4, .int l4), (5, .int l5), (6, .int l6)] []) : ∀ (l3 : Int32) (l4 : Int32) (l6 : Int32) (t0 : Int32) (z0 : MS), f_X12_goes_J97 k39 l1 l2 l3 l4 l6 t0 z0 = some res → WA p l e ({ frames := 5, cells := 0, slots := 0, locals := 120 } : Room) s m args below meth c (MQ below (QI D dT A ([wM dT a res.2]) res.1) args s 0 0 A) D A 0 0 8 97 ([wM dT a z0]) [(0, .ref (a 0)), (1, .int l1), (2, .int l2), (3, .int l3), (4, .int l4), (6, .int l6)] [.int t0] := by
  intro l3 l4 l6 t0 z0 hf
  unfold f_X12_goes_J97 at hf
  refine wa_istore (lv' := [(0, .ref (a 0)), (1, .int l1), (2, .int l2), (3, .int l3), (4, .int l4), (5, .int t0), (6, .int l6)]) C [1, 2, 3, 4, 5, 0, 6] 99 dX12_goes_97 rfl (Nat.le_of_ble_eq_true rfl) rfl ?_
  refine wa_iload C 5 101 dX12_goes_99 rfl rfl ?_
  refine wa_iload C 4 103 dX12_goes_101 rfl rfl ?_
  refine wa_icmp_le C 111 106 dX12_goes_103 rfl rfl (fun c13 => ?_) (fun c13 => ?_)
  · replace hf := ite_t hf c13
    refine wa_iload C 4 113 dX12_goes_111 rfl rfl ?_
    refine wa_istore (lv' := [(0, .ref (a 0)), (1, .int l1), (2, .int l2), (3, .int l3), (4, .int l4), (5, .int t0), (6, .int l6)]) C [1, 2, 3, 4, 0, 5, 6] 115 dX12_goes_113 rfl (Nat.le_of_ble_eq_true rfl) rfl ?_
    obtain ⟨x14, ex14, hf⟩ := bnd_ex hf
    refine wa_iinc (v := x14) (lv' := [(0, .ref (a 0)), (1, .int l1), (2, .int l2), (3, .int l3), (4, .int l4), (5, .int t0), (6, .int x14)]) C 6 [1, 2, 3, 4, 5, 6, 0] 118 dX12_goes_115 rfl rfl (by rw [ex14]; rfl) (Nat.le_of_ble_eq_true rfl) rfl ?_
    refine wa_goto C 39 dX12_goes_118 rfl ?_
    exact hk39 l3 l4 t0 x14 z0 hf
  · replace hf := ite_f hf c13
    refine wa_iload C 5 108 dX12_goes_106 rfl rfl ?_
    refine wa_goto C 113 dX12_goes_108 rfl ?_
    refine wa_istore (lv' := [(0, .ref (a 0)), (1, .int l1), (2, .int l2), (3, .int l3), (4, .int t0), (5, .int t0), (6, .int l6)]) C [1, 2, 3, 4, 0, 5, 6] 115 dX12_goes_113 rfl (Nat.le_of_ble_eq_true rfl) rfl ?_
    obtain ⟨x15, ex15, hf⟩ := bnd_ex hf
    refine wa_iinc (v := x15) (lv' := [(0, .ref (a 0)), (1, .int l1), (2, .int l2), (3, .int l3), (4, .int t0), (5, .int t0), (6, .int x15)]) C 6 [1, 2, 3, 4, 5, 6, 0] 118 dX12_goes_115 rfl rfl (by rw [ex15]; rfl) (Nat.le_of_ble_eq_true rfl) rfl ?_
    refine wa_goto C 39 dX12_goes_118 rfl ?_
    exact hk39 l3 t0 t0 x15 z0 hf
set_option maxRecDepth 20000 in
theorem w_X12_goes_J84 {p : Program} {l : Launch} {e : Env} {s : State} {m : MethodId} {args : Array Value} {below : List Frame} {meth : Method} {c : Code} {D : va_G} {A : Nat → Prop} {dT : Nat → ClassId} {a : Nat → Nat} {res : Int32 × MS} {l1 : Int32} {l2 : Int32} (C : Cx p s m args meth c cX12_goes 8 RX12 (some .int) D A dT) {k39 : Int32 → Int32 → Int32 → Int32 → MS → Option (Int32 × MS)} (hk39 : ∀ (l3 : Int32) (l4 : Int32) (l5 : Int32) (l6 : Int32) (z0 : MS), k39 l3 l4 l5 l6 z0 = some res → WA p l e ({ frames := 5, cells := 0, slots := 0, locals := 120 } : Room) s m args below meth c (MQ below (QI D dT A ([wM dT a res.2]) res.1) args s 0 0 A) D A 0 0 8 39 ([wM dT a z0]) [(0, .ref (a 0)), (1, .int l1), (2, .int l2), (3, .int l3), (4, .int l4), (5, .int l5), (6, .int l6)] []) : ∀ (l3 : Int32) (l4 : Int32) (l5 : Int32) (l6 : Int32) (l7 : Int32) (z0 : MS), f_X12_goes_J84 k39 l1 l2 l3 l4 l5 l6 l7 z0 = some res → WA p l e ({ frames := 5, cells := 0, slots := 0, locals := 120 } : Room) s m args below meth c (MQ below (QI D dT A ([wM dT a res.2]) res.1) args s 0 0 A) D A 0 0 8 84 ([wM dT a z0]) [(0, .ref (a 0)), (1, .int l1), (2, .int l2), (3, .int l3), (4, .int l4), (5, .int l5), (6, .int l6), (7, .int l7)] [] := by
  intro l3 l4 l5 l6 l7 z0 hf
  unfold f_X12_goes_J84 at hf
  refine wa_iload C 7 86 dX12_goes_84 rfl rfl ?_
  refine wa_if_eq C 93 89 dX12_goes_86 rfl rfl (fun c12 => ?_) (fun c12 => ?_)
  · replace hf := ite_t hf c12
    refine wa_iload C 5 95 dX12_goes_93 rfl rfl ?_
    refine wa_iconst (v := 1) C 96 dX12_goes_95 rfl rfl ?_
    refine wa_iadd C 97 dX12_goes_96 rfl ?_
    refine wa_lv (lv' := [(0, .ref (a 0)), (1, .int l1), (2, .int l2), (3, .int l3), (4, .int l4), (6, .int l6)]) [0, 1, 2, 3, 4, 6] rfl ?_
    exact w_X12_goes_J97 C hk39 l3 l4 l6 (l5 + (1 : Int32)) z0 hf
  · replace hf := ite_f hf c12
    refine wa_iconst (v := 0) C 90 dX12_goes_89 rfl rfl ?_
    refine wa_goto C 97 dX12_goes_90 rfl ?_
    refine wa_lv (lv' := [(0, .ref (a 0)), (1, .int l1), (2, .int l2), (3, .int l3), (4, .int l4), (6, .int l6)]) [0, 1, 2, 3, 4, 6] rfl ?_
    exact w_X12_goes_J97 C hk39 l3 l4 l6 (0 : Int32) z0 hf
set_option maxRecDepth 20000 in
theorem w_X12_goes_J69 {p : Program} {l : Launch} {e : Env} {s : State} {m : MethodId} {args : Array Value} {below : List Frame} {meth : Method} {c : Code} {D : va_G} {A : Nat → Prop} {dT : Nat → ClassId} {a : Nat → Nat} {res : Int32 × MS} {l1 : Int32} {l2 : Int32} (C : Cx p s m args meth c cX12_goes 8 RX12 (some .int) D A dT) {k39 : Int32 → Int32 → Int32 → Int32 → MS → Option (Int32 × MS)} (hk39 : ∀ (l3 : Int32) (l4 : Int32) (l5 : Int32) (l6 : Int32) (z0 : MS), k39 l3 l4 l5 l6 z0 = some res → WA p l e ({ frames := 5, cells := 0, slots := 0, locals := 120 } : Room) s m args below meth c (MQ below (QI D dT A ([wM dT a res.2]) res.1) args s 0 0 A) D A 0 0 8 39 ([wM dT a z0]) [(0, .ref (a 0)), (1, .int l1), (2, .int l2), (3, .int l3), (4, .int l4), (5, .int l5), (6, .int l6)] []) : ∀ (l3 : Int32) (l4 : Int32) (l5 : Int32) (l6 : Int32) (t0 : Int32) (z0 : MS), f_X12_goes_J69 k39 l1 l2 l3 l4 l5 l6 t0 z0 = some res → WA p l e ({ frames := 5, cells := 0, slots := 0, locals := 120 } : Room) s m args below meth c (MQ below (QI D dT A ([wM dT a res.2]) res.1) args s 0 0 A) D A 0 0 8 69 ([wM dT a z0]) [(0, .ref (a 0)), (1, .int l1), (2, .int l2), (3, .int l3), (4, .int l4), (5, .int l5), (6, .int l6)] [.int t0] := by
  intro l3 l4 l5 l6 t0 z0 hf
  unfold f_X12_goes_J69 at hf
  refine wa_istore (lv' := [(0, .ref (a 0)), (1, .int l1), (2, .int l2), (3, .int l3), (4, .int l4), (5, .int l5), (6, .int l6), (7, .int t0)]) C [1, 2, 3, 4, 5, 6, 7, 0] 71 dX12_goes_69 rfl (Nat.le_of_ble_eq_true rfl) rfl ?_
  refine wa_iload C 7 73 dX12_goes_71 rfl rfl ?_
  refine wa_if_eq C 84 76 dX12_goes_73 rfl rfl (fun c11 => ?_) (fun c11 => ?_)
  · replace hf := ite_t hf c11
    exact w_X12_goes_J84 C hk39 l3 l4 l5 l6 t0 z0 hf
  · replace hf := ite_f hf c11
    refine wa_iload_n C 3 77 dX12_goes_76 rfl rfl ?_
    refine wa_iconst (v := (-1)) C 78 dX12_goes_77 rfl rfl ?_
    refine wa_icmp_ne C 84 81 dX12_goes_78 rfl rfl (fun c16 => ?_) (fun c16 => ?_)
    · replace hf := ite_f hf c16
      exact w_X12_goes_J84 C hk39 l3 l4 l5 l6 t0 z0 hf
    · replace hf := ite_t hf c16
      refine wa_iload C 6 83 dX12_goes_81 rfl rfl ?_
      refine wa_istore_n (lv' := [(0, .ref (a 0)), (1, .int l1), (2, .int l2), (3, .int l6), (4, .int l4), (5, .int l5), (6, .int l6), (7, .int t0)]) C [1, 2, 3, 0, 4, 5, 6, 7] 84 dX12_goes_83 rfl (Nat.le_of_ble_eq_true rfl) rfl ?_
      exact w_X12_goes_J84 C hk39 l6 l4 l5 l6 t0 z0 hf
set_option maxRecDepth 20000 in
theorem w_X12_goes_L39 {p : Program} {l : Launch} {e : Env} {s : State} {m : MethodId} {args : Array Value} {below : List Frame} {meth : Method} {c : Code} {D : va_G} {A : Nat → Prop} {dT : Nat → ClassId} {a : Nat → Nat} {res : Int32 × MS} {l1 : Int32} {l2 : Int32} (C : Cx p s m args meth c cX12_goes 8 RX12 (some .int) D A dT) : ∀ (n : Nat) (l3 : Int32) (l4 : Int32) (l5 : Int32) (l6 : Int32) (z0 : MS), f_X12_goes_L39 l1 l2 n l3 l4 l5 l6 z0 = some res → WA p l e ({ frames := 5, cells := 0, slots := 0, locals := 120 } : Room) s m args below meth c (MQ below (QI D dT A ([wM dT a res.2]) res.1) args s 0 0 A) D A 0 0 8 39 ([wM dT a z0]) [(0, .ref (a 0)), (1, .int l1), (2, .int l2), (3, .int l3), (4, .int l4), (5, .int l5), (6, .int l6)] [] := by
  intro n
  induction n with
  | zero => intro l3 l4 l5 l6 z0 hf; cases hf
  | succ n ih =>
    intro l3 l4 l5 l6 z0 hf
    unfold f_X12_goes_L39 at hf
    refine wa_iload C 6 41 dX12_goes_39 rfl rfl ?_
    refine wa_bipush (v := 100) C 43 dX12_goes_41 rfl rfl ?_
    refine wa_icmp_gt C 121 46 dX12_goes_43 rfl rfl (fun c7 => ?_) (fun c7 => ?_)
    · replace hf := ite_t hf c7
      refine wa_iload_n C 2 122 dX12_goes_121 rfl rfl ?_
      refine wa_if_ne C 129 125 dX12_goes_122 rfl rfl (fun c8 => ?_) (fun c8 => ?_)
      · replace hf := ite_f hf c8
        refine wa_iload C 4 131 dX12_goes_129 rfl rfl ?_
        cases hf
        exact wa_iret C dX12_goes_131 rfl rfl
      · replace hf := ite_t hf c8
        refine wa_iload_n C 3 126 dX12_goes_125 rfl rfl ?_
        refine wa_goto C 131 dX12_goes_126 rfl ?_
        cases hf
        exact wa_iret C dX12_goes_131 rfl rfl
    · replace hf := ite_f hf c7
      refine wa_aload_n C 0 47 dX12_goes_46 rfl rfl ?_
      refine wa_bipush (v := 86) C 49 dX12_goes_47 rfl rfl ?_
      obtain ⟨q9, hq9, hf⟩ := bind_ex hf
      refine wa_callVAv (b1 := 0) (q1 := 0) (ci := 12) (As := [.int (86 : Int32)]) C 52 dX12_goes_49 rfl kv_X12_334 (c_X12_eveningGoes hq9) ⟨rfl, rfl⟩ ⟨Nat.le_of_ble_eq_true rfl, Nat.le_of_ble_eq_true rfl⟩ rfl rfl rfl rfl rfl ⟨Nat.zero_le _, Nat.zero_le _⟩ (Nat.le_of_ble_eq_true rfl) ?_
      refine wa_aload_n C 0 53 dX12_goes_52 rfl rfl ?_
      refine wa_get C 56 0 0 41 dX12_goes_53 rfl iX12 q1490 rfl (Nat.le_of_ble_eq_true rfl) rfl rfl rfl ?_
      refine wa_iload_n C 1 57 dX12_goes_56 rfl rfl ?_
      refine wa_ishr C 58 dX12_goes_57 rfl ?_
      refine wa_iconst (v := 1) C 59 dX12_goes_58 rfl rfl ?_
      refine wa_iand C 60 dX12_goes_59 rfl ?_
      refine wa_iconst (v := 1) C 61 dX12_goes_60 rfl rfl ?_
      refine wa_icmp_ne C 68 64 dX12_goes_61 rfl rfl (fun c10 => ?_) (fun c10 => ?_)
      · replace hf := ite_f hf c10
        refine wa_iconst (v := 0) C 69 dX12_goes_68 rfl rfl ?_
        exact w_X12_goes_J69 C ih l3 l4 l5 l6 (0 : Int32) q9 hf
      · replace hf := ite_t hf c10
        refine wa_iconst (v := 1) C 65 dX12_goes_64 rfl rfl ?_
        refine wa_goto C 69 dX12_goes_65 rfl ?_
        exact w_X12_goes_J69 C ih l3 l4 l5 l6 (1 : Int32) q9 hf
set_option maxRecDepth 20000 in
theorem c_X12_goes {l : Launch} {D : va_G} {dT : Nat → ClassId} {a : Nat → Nat} {v : MS} {p0 : Int32} {p1 : Int32} {res : Int32 × MS} (hf : f_X12_goes v p0 p1 = some res) : CTi l yX12_goes cX12_goes 8 (some .int) ({ frames := 5, cells := 0, slots := 0, locals := 120 } : Room) D dT [.ref (a 0), .int p0, .int p1] ([wM dT a v]) ([wM dT a res.2]) res.1 := by
  refine CTi.of (by decide) (Nat.le_of_ble_eq_true rfl) rfl ?_
  intro p e s m args below meth c A C
  unfold f_X12_goes at hf
  refine wa_aload_n C 0 1 dX12_goes_0 rfl rfl ?_
  refine wa_iconst (v := 0) C 2 dX12_goes_1 rfl rfl ?_
  obtain ⟨y1, ey1, hf⟩ := bnd_ex hf
  refine wa_put (ws' := [wM dT a y1]) C 5 0 0 0 tyX12 dX12_goes_2 rfl iX12 tyX12_ok nmX12 q1449 rfl (Nat.le_of_ble_eq_true rfl) rfl rfl rfl rfl rfl (Nat.le_of_ble_eq_true rfl) (by rw [ey1]; rfl) ?_
  refine wa_aload_n C 0 6 dX12_goes_5 rfl rfl ?_
  refine wa_iload_n C 1 7 dX12_goes_6 rfl rfl ?_
  obtain ⟨q2, hq2, hf⟩ := bind_ex hf
  refine wa_callVAi (b1 := 0) (q1 := 0) (ci := 12) (As := [.int p0]) C 10 dX12_goes_7 rfl kv_X12_368 (c_X12_isPerson hq2) ⟨rfl, rfl⟩ ⟨Nat.le_of_ble_eq_true rfl, Nat.le_of_ble_eq_true rfl⟩ rfl rfl rfl rfl rfl ⟨Nat.zero_le _, Nat.zero_le _⟩ (Nat.le_of_ble_eq_true rfl) ?_
  refine wa_if_eq C 22 13 dX12_goes_10 rfl rfl (fun c3 => ?_) (fun c3 => ?_)
  · replace hf := ite_t hf c3
    refine wa_iconst (v := 0) C 23 dX12_goes_22 rfl rfl ?_
    cases hf
    exact wa_iret C dX12_goes_23 rfl rfl
  · replace hf := ite_f hf c3
    refine wa_aload_n C 0 14 dX12_goes_13 rfl rfl ?_
    refine wa_iload_n C 2 15 dX12_goes_14 rfl rfl ?_
    refine wa_iconst (v := 1) C 16 dX12_goes_15 rfl rfl ?_
    obtain ⟨q4, hq4, hf⟩ := bind_ex hf
    refine wa_callVAi (b1 := 0) (q1 := 0) (ci := 12) (As := [.int p1, .int (1 : Int32)]) C 19 dX12_goes_16 rfl kv_X12_371 (c_X12_isWhat hq4) ⟨rfl, rfl⟩ ⟨Nat.le_of_ble_eq_true rfl, Nat.le_of_ble_eq_true rfl⟩ rfl rfl rfl rfl rfl ⟨Nat.zero_le _, Nat.zero_le _⟩ (Nat.le_of_ble_eq_true rfl) ?_
    refine wa_if_ne C 24 22 dX12_goes_19 rfl rfl (fun c5 => ?_) (fun c5 => ?_)
    · replace hf := ite_f hf c5
      refine wa_iconst (v := (-1)) C 25 dX12_goes_24 rfl rfl ?_
      refine wa_istore_n (lv' := [(0, .ref (a 0)), (1, .int p0), (2, .int p1), (3, .int (-1 : Int32))]) C [1, 2, 3, 0] 26 dX12_goes_25 rfl (Nat.le_of_ble_eq_true rfl) rfl ?_
      refine wa_iconst (v := 0) C 27 dX12_goes_26 rfl rfl ?_
      refine wa_istore (lv' := [(0, .ref (a 0)), (1, .int p0), (2, .int p1), (3, .int (-1 : Int32)), (4, .int (0 : Int32))]) C [1, 2, 3, 4, 0] 29 dX12_goes_27 rfl (Nat.le_of_ble_eq_true rfl) rfl ?_
      refine wa_iconst (v := 0) C 30 dX12_goes_29 rfl rfl ?_
      refine wa_istore (lv' := [(0, .ref (a 0)), (1, .int p0), (2, .int p1), (3, .int (-1 : Int32)), (4, .int (0 : Int32)), (5, .int (0 : Int32))]) C [1, 2, 3, 4, 5, 0] 32 dX12_goes_30 rfl (Nat.le_of_ble_eq_true rfl) rfl ?_
      refine wa_aload_n C 0 33 dX12_goes_32 rfl rfl ?_
      obtain ⟨q6, hq6, hf⟩ := bind_ex hf
      refine wa_callVAv (b1 := 0) (q1 := 0) (ci := 12) (As := []) C 36 dX12_goes_33 rfl kv_X12_337 (c_X12_tries hq6) ⟨rfl, rfl⟩ ⟨Nat.le_of_ble_eq_true rfl, Nat.le_of_ble_eq_true rfl⟩ rfl rfl rfl rfl rfl ⟨Nat.zero_le _, Nat.zero_le _⟩ (Nat.le_of_ble_eq_true rfl) ?_
      refine wa_iconst (v := 1) C 37 dX12_goes_36 rfl rfl ?_
      refine wa_istore (lv' := [(0, .ref (a 0)), (1, .int p0), (2, .int p1), (3, .int (-1 : Int32)), (4, .int (0 : Int32)), (5, .int (0 : Int32)), (6, .int (1 : Int32))]) C [1, 2, 3, 4, 5, 6, 0] 39 dX12_goes_37 rfl (Nat.le_of_ble_eq_true rfl) rfl ?_
      exact w_X12_goes_L39 C FUEL (-1 : Int32) (0 : Int32) (0 : Int32) (1 : Int32) q6 hf
    · replace hf := ite_t hf c5
      refine wa_iconst (v := 0) C 23 dX12_goes_22 rfl rfl ?_
      cases hf
      exact wa_iret C dX12_goes_23 rfl rfl
def f_X12_falls_L38 (k21 : Int32 → MS → Option (Int32 × MS)) (l1 : Int32) (l2 : Int32) (z0 : MS) : Nat → Int32 → Int32 → Option (Int32 × MS)
  | 0, _, _ => none
  | n + 1, l3, l4 => grd (vi (87 : Int32) 172) ((if (z0.2.2 10 ((87 : Int32)).toNatClampNeg) ≤ l4 then (if l3 = 0 then some (l2, z0) else bnd (l2 + 1) (fun x10 => k21 x10 z0)) else (if l3 = 0 then grd (vi ((160 : Int32) + l4) 172) ((if (z0.2.2 10 (((160 : Int32) + l4)).toNatClampNeg) = l1 then bnd (l4 + 1) (fun x16 => f_X12_falls_L38 k21 l1 l2 z0 n (1 : Int32) x16) else bnd (l4 + 1) (fun x15 => f_X12_falls_L38 k21 l1 l2 z0 n (0 : Int32) x15))) else bnd (l4 + 1) (fun x12 => f_X12_falls_L38 k21 l1 l2 z0 n (1 : Int32) x12))))
def f_X12_falls_L21 (l1 : Int32) : Nat → Int32 → MS → Option (Int32 × MS)
  | 0, _, _ => none
  | n + 1, l2, z0 => (if (100 : Int32) < l2 then some ((-1 : Int32), z0) else (f_X12_eveningGoes z0 (86 : Int32)).bind (fun q6 => f_X12_falls_L38 (f_X12_falls_L21 l1 n) l1 l2 q6 FUEL (0 : Int32) (0 : Int32)))
def f_X12_falls (v : MS) (p0 : Int32) : Option (Int32 × MS) := bnd (upd v.1 0 (0 : Int32), v.2) (fun y1 => (f_X12_isHouse y1 p0).bind (fun q2 => (if q2.1 = 0 then some ((0 : Int32), q2.2) else (f_X12_tries q2.2).bind (fun q4 => f_X12_falls_L21 p0 FUEL (1 : Int32) q4))))
set_option maxRecDepth 20000 in
theorem w_X12_falls_L38 {p : Program} {l : Launch} {e : Env} {s : State} {m : MethodId} {args : Array Value} {below : List Frame} {meth : Method} {c : Code} {D : va_G} {A : Nat → Prop} {dT : Nat → ClassId} {a : Nat → Nat} {res : Int32 × MS} {l1 : Int32} {l2 : Int32} {z0 : MS} (C : Cx p s m args meth c cX12_falls 5 RX12 (some .int) D A dT) {k21 : Int32 → MS → Option (Int32 × MS)} (hk21 : ∀ (l2 : Int32) (z0 : MS), k21 l2 z0 = some res → WA p l e ({ frames := 5, cells := 0, slots := 0, locals := 120 } : Room) s m args below meth c (MQ below (QI D dT A ([wM dT a res.2]) res.1) args s 0 0 A) D A 0 0 5 21 ([wM dT a z0]) [(0, .ref (a 0)), (1, .int l1), (2, .int l2)] []) : ∀ (n : Nat) (l3 : Int32) (l4 : Int32), f_X12_falls_L38 k21 l1 l2 z0 n l3 l4 = some res → WA p l e ({ frames := 5, cells := 0, slots := 0, locals := 120 } : Room) s m args below meth c (MQ below (QI D dT A ([wM dT a res.2]) res.1) args s 0 0 A) D A 0 0 5 38 ([wM dT a z0]) [(0, .ref (a 0)), (1, .int l1), (2, .int l2), (3, .int l3), (4, .int l4)] [] := by
  intro n
  induction n with
  | zero => intro l3 l4 hf; cases hf
  | succ n ih =>
    intro l3 l4 hf
    unfold f_X12_falls_L38 at hf
    refine wa_iload C 4 40 dX12_falls_38 rfl rfl ?_
    refine wa_aload_n C 0 41 dX12_falls_40 rfl rfl ?_
    refine wa_get C 44 0 0 34 dX12_falls_41 rfl iX12 q1483 rfl (Nat.le_of_ble_eq_true rfl) rfl rfl rfl ?_
    refine wa_bipush (v := 87) C 46 dX12_falls_44 rfl rfl ?_
    obtain ⟨g7, hf⟩ := grd_ex hf
    refine wa_iald C 47 0 10 dX12_falls_46 rfl rfl rfl (vi_in g7) ?_
    refine wa_icmp_ge C 81 50 dX12_falls_47 rfl rfl (fun c8 => ?_) (fun c8 => ?_)
    · replace hf := ite_t hf c8
      refine wa_iload_n C 3 82 dX12_falls_81 rfl rfl ?_
      refine wa_if_ne C 87 85 dX12_falls_82 rfl rfl (fun c9 => ?_) (fun c9 => ?_)
      · replace hf := ite_f hf c9
        obtain ⟨x10, ex10, hf⟩ := bnd_ex hf
        refine wa_iinc (v := x10) (lv' := [(0, .ref (a 0)), (1, .int l1), (2, .int x10), (3, .int l3), (4, .int l4)]) C 2 [1, 2, 0, 3, 4] 90 dX12_falls_87 rfl rfl (by rw [ex10]; rfl) (Nat.le_of_ble_eq_true rfl) rfl ?_
        refine wa_goto C 21 dX12_falls_90 rfl ?_
        refine wa_lv (lv' := [(0, .ref (a 0)), (1, .int l1), (2, .int x10)]) [0, 1, 2] rfl ?_
        exact hk21 x10 z0 hf
      · replace hf := ite_t hf c9
        refine wa_iload_n C 2 86 dX12_falls_85 rfl rfl ?_
        cases hf
        exact wa_iret C dX12_falls_86 rfl rfl
    · replace hf := ite_f hf c8
      refine wa_iload_n C 3 51 dX12_falls_50 rfl rfl ?_
      refine wa_if_ne C 69 54 dX12_falls_51 rfl rfl (fun c11 => ?_) (fun c11 => ?_)
      · replace hf := ite_f hf c11
        refine wa_iconst (v := 1) C 70 dX12_falls_69 rfl rfl ?_
        refine wa_goto C 74 dX12_falls_70 rfl ?_
        refine wa_istore_n (lv' := [(0, .ref (a 0)), (1, .int l1), (2, .int l2), (3, .int (1 : Int32)), (4, .int l4)]) C [1, 2, 3, 0, 4] 75 dX12_falls_74 rfl (Nat.le_of_ble_eq_true rfl) rfl ?_
        obtain ⟨x12, ex12, hf⟩ := bnd_ex hf
        refine wa_iinc (v := x12) (lv' := [(0, .ref (a 0)), (1, .int l1), (2, .int l2), (3, .int (1 : Int32)), (4, .int x12)]) C 4 [1, 2, 3, 4, 0] 78 dX12_falls_75 rfl rfl (by rw [ex12]; rfl) (Nat.le_of_ble_eq_true rfl) rfl ?_
        refine wa_goto C 38 dX12_falls_78 rfl ?_
        exact ih (1 : Int32) x12 hf
      · replace hf := ite_t hf c11
        refine wa_aload_n C 0 55 dX12_falls_54 rfl rfl ?_
        refine wa_get C 58 0 0 34 dX12_falls_55 rfl iX12 q1483 rfl (Nat.le_of_ble_eq_true rfl) rfl rfl rfl ?_
        refine wa_sipush (v := 160) C 61 dX12_falls_58 rfl rfl ?_
        refine wa_iload C 4 63 dX12_falls_61 rfl rfl ?_
        refine wa_iadd C 64 dX12_falls_63 rfl ?_
        obtain ⟨g13, hf⟩ := grd_ex hf
        refine wa_iald C 65 0 10 dX12_falls_64 rfl rfl rfl (vi_in g13) ?_
        refine wa_iload_n C 1 66 dX12_falls_65 rfl rfl ?_
        refine wa_icmp_ne C 73 69 dX12_falls_66 rfl rfl (fun c14 => ?_) (fun c14 => ?_)
        · replace hf := ite_f hf c14
          refine wa_iconst (v := 0) C 74 dX12_falls_73 rfl rfl ?_
          refine wa_istore_n (lv' := [(0, .ref (a 0)), (1, .int l1), (2, .int l2), (3, .int (0 : Int32)), (4, .int l4)]) C [1, 2, 3, 0, 4] 75 dX12_falls_74 rfl (Nat.le_of_ble_eq_true rfl) rfl ?_
          obtain ⟨x15, ex15, hf⟩ := bnd_ex hf
          refine wa_iinc (v := x15) (lv' := [(0, .ref (a 0)), (1, .int l1), (2, .int l2), (3, .int (0 : Int32)), (4, .int x15)]) C 4 [1, 2, 3, 4, 0] 78 dX12_falls_75 rfl rfl (by rw [ex15]; rfl) (Nat.le_of_ble_eq_true rfl) rfl ?_
          refine wa_goto C 38 dX12_falls_78 rfl ?_
          exact ih (0 : Int32) x15 hf
        · replace hf := ite_t hf c14
          refine wa_iconst (v := 1) C 70 dX12_falls_69 rfl rfl ?_
          refine wa_goto C 74 dX12_falls_70 rfl ?_
          refine wa_istore_n (lv' := [(0, .ref (a 0)), (1, .int l1), (2, .int l2), (3, .int (1 : Int32)), (4, .int l4)]) C [1, 2, 3, 0, 4] 75 dX12_falls_74 rfl (Nat.le_of_ble_eq_true rfl) rfl ?_
          obtain ⟨x16, ex16, hf⟩ := bnd_ex hf
          refine wa_iinc (v := x16) (lv' := [(0, .ref (a 0)), (1, .int l1), (2, .int l2), (3, .int (1 : Int32)), (4, .int x16)]) C 4 [1, 2, 3, 4, 0] 78 dX12_falls_75 rfl rfl (by rw [ex16]; rfl) (Nat.le_of_ble_eq_true rfl) rfl ?_
          refine wa_goto C 38 dX12_falls_78 rfl ?_
          exact ih (1 : Int32) x16 hf
set_option maxRecDepth 20000 in
theorem w_X12_falls_L21 {p : Program} {l : Launch} {e : Env} {s : State} {m : MethodId} {args : Array Value} {below : List Frame} {meth : Method} {c : Code} {D : va_G} {A : Nat → Prop} {dT : Nat → ClassId} {a : Nat → Nat} {res : Int32 × MS} {l1 : Int32} (C : Cx p s m args meth c cX12_falls 5 RX12 (some .int) D A dT) : ∀ (n : Nat) (l2 : Int32) (z0 : MS), f_X12_falls_L21 l1 n l2 z0 = some res → WA p l e ({ frames := 5, cells := 0, slots := 0, locals := 120 } : Room) s m args below meth c (MQ below (QI D dT A ([wM dT a res.2]) res.1) args s 0 0 A) D A 0 0 5 21 ([wM dT a z0]) [(0, .ref (a 0)), (1, .int l1), (2, .int l2)] [] := by
  intro n
  induction n with
  | zero => intro l2 z0 hf; cases hf
  | succ n ih =>
    intro l2 z0 hf
    unfold f_X12_falls_L21 at hf
    refine wa_iload_n C 2 22 dX12_falls_21 rfl rfl ?_
    refine wa_bipush (v := 100) C 24 dX12_falls_22 rfl rfl ?_
    refine wa_icmp_gt C 93 27 dX12_falls_24 rfl rfl (fun c5 => ?_) (fun c5 => ?_)
    · replace hf := ite_t hf c5
      refine wa_iconst (v := (-1)) C 94 dX12_falls_93 rfl rfl ?_
      cases hf
      exact wa_iret C dX12_falls_94 rfl rfl
    · replace hf := ite_f hf c5
      refine wa_aload_n C 0 28 dX12_falls_27 rfl rfl ?_
      refine wa_bipush (v := 86) C 30 dX12_falls_28 rfl rfl ?_
      obtain ⟨q6, hq6, hf⟩ := bind_ex hf
      refine wa_callVAv (b1 := 0) (q1 := 0) (ci := 12) (As := [.int (86 : Int32)]) C 33 dX12_falls_30 rfl kv_X12_334 (c_X12_eveningGoes hq6) ⟨rfl, rfl⟩ ⟨Nat.le_of_ble_eq_true rfl, Nat.le_of_ble_eq_true rfl⟩ rfl rfl rfl rfl rfl ⟨Nat.zero_le _, Nat.zero_le _⟩ (Nat.le_of_ble_eq_true rfl) ?_
      refine wa_iconst (v := 0) C 34 dX12_falls_33 rfl rfl ?_
      refine wa_istore_n (lv' := [(0, .ref (a 0)), (1, .int l1), (2, .int l2), (3, .int (0 : Int32))]) C [1, 2, 3, 0] 35 dX12_falls_34 rfl (Nat.le_of_ble_eq_true rfl) rfl ?_
      refine wa_iconst (v := 0) C 36 dX12_falls_35 rfl rfl ?_
      refine wa_istore (lv' := [(0, .ref (a 0)), (1, .int l1), (2, .int l2), (3, .int (0 : Int32)), (4, .int (0 : Int32))]) C [1, 2, 3, 4, 0] 38 dX12_falls_36 rfl (Nat.le_of_ble_eq_true rfl) rfl ?_
      exact w_X12_falls_L38 C ih FUEL (0 : Int32) (0 : Int32) hf
set_option maxRecDepth 20000 in
theorem c_X12_falls {l : Launch} {D : va_G} {dT : Nat → ClassId} {a : Nat → Nat} {v : MS} {p0 : Int32} {res : Int32 × MS} (hf : f_X12_falls v p0 = some res) : CTi l yX12_falls cX12_falls 5 (some .int) ({ frames := 5, cells := 0, slots := 0, locals := 120 } : Room) D dT [.ref (a 0), .int p0] ([wM dT a v]) ([wM dT a res.2]) res.1 := by
  refine CTi.of (by decide) (Nat.le_of_ble_eq_true rfl) rfl ?_
  intro p e s m args below meth c A C
  unfold f_X12_falls at hf
  refine wa_aload_n C 0 1 dX12_falls_0 rfl rfl ?_
  refine wa_iconst (v := 0) C 2 dX12_falls_1 rfl rfl ?_
  obtain ⟨y1, ey1, hf⟩ := bnd_ex hf
  refine wa_put (ws' := [wM dT a y1]) C 5 0 0 0 tyX12 dX12_falls_2 rfl iX12 tyX12_ok nmX12 q1449 rfl (Nat.le_of_ble_eq_true rfl) rfl rfl rfl rfl rfl (Nat.le_of_ble_eq_true rfl) (by rw [ey1]; rfl) ?_
  refine wa_aload_n C 0 6 dX12_falls_5 rfl rfl ?_
  refine wa_iload_n C 1 7 dX12_falls_6 rfl rfl ?_
  obtain ⟨q2, hq2, hf⟩ := bind_ex hf
  refine wa_callVAi (b1 := 0) (q1 := 0) (ci := 12) (As := [.int p0]) C 10 dX12_falls_7 rfl kv_X12_383 (c_X12_isHouse hq2) ⟨rfl, rfl⟩ ⟨Nat.le_of_ble_eq_true rfl, Nat.le_of_ble_eq_true rfl⟩ rfl rfl rfl rfl rfl ⟨Nat.zero_le _, Nat.zero_le _⟩ (Nat.le_of_ble_eq_true rfl) ?_
  refine wa_if_ne C 15 13 dX12_falls_10 rfl rfl (fun c3 => ?_) (fun c3 => ?_)
  · replace hf := ite_f hf c3
    refine wa_aload_n C 0 16 dX12_falls_15 rfl rfl ?_
    obtain ⟨q4, hq4, hf⟩ := bind_ex hf
    refine wa_callVAv (b1 := 0) (q1 := 0) (ci := 12) (As := []) C 19 dX12_falls_16 rfl kv_X12_337 (c_X12_tries hq4) ⟨rfl, rfl⟩ ⟨Nat.le_of_ble_eq_true rfl, Nat.le_of_ble_eq_true rfl⟩ rfl rfl rfl rfl rfl ⟨Nat.zero_le _, Nat.zero_le _⟩ (Nat.le_of_ble_eq_true rfl) ?_
    refine wa_iconst (v := 1) C 20 dX12_falls_19 rfl rfl ?_
    refine wa_istore_n (lv' := [(0, .ref (a 0)), (1, .int p0), (2, .int (1 : Int32))]) C [1, 2, 0] 21 dX12_falls_20 rfl (Nat.le_of_ble_eq_true rfl) rfl ?_
    exact w_X12_falls_L21 C FUEL (1 : Int32) q4 hf
  · replace hf := ite_t hf c3
    refine wa_iconst (v := 0) C 14 dX12_falls_13 rfl rfl ?_
    cases hf
    exact wa_iret C dX12_falls_14 rfl rfl
def f_X12_who_J41 (l1 : Int32) (l2 : Int32) (l3 : Int32) (t0 : Int32) (z0 : MS) : Option (Int32 × MS) := (f_X12_right z0 t0 (1 : Int32)).bind (fun q4 => (if q4.1 = 0 then some ((0 : Int32), q4.2) else (f_X12_goesTo q4.2 l3).bind (fun q6 => (f_X12_whoAt q6 (86 : Int32) l1 l2).bind (fun q7 => some (q7, q6)))))
def f_X12_who_J40 (l1 : Int32) (l2 : Int32) (l3 : Int32) (z0 : MS) : Option (Int32 × MS) := f_X12_who_J41 l1 l2 l3 (0 : Int32) z0
def f_X12_who (v : MS) (p0 : Int32) (p1 : Int32) (p2 : Int32) : Option (Int32 × MS) := bnd (upd v.1 0 (0 : Int32), v.2) (fun y1 => (f_X12_within p0 (0 : Int32) (11 : Int32)).bind (fun q2 => (if q2 = 0 then f_X12_who_J40 p0 p1 p2 y1 else (f_X12_within p1 (0 : Int32) (11 : Int32)).bind (fun q8 => (if q8 = 0 then f_X12_who_J40 p0 p1 p2 y1 else (f_X12_within p2 (0 : Int32) (100 : Int32)).bind (fun q10 => (if q10 = 0 then f_X12_who_J40 p0 p1 p2 y1 else f_X12_who_J41 p0 p1 p2 (1 : Int32) y1)))))))
set_option maxRecDepth 20000 in
theorem w_X12_who_J41 {p : Program} {l : Launch} {e : Env} {s : State} {m : MethodId} {args : Array Value} {below : List Frame} {meth : Method} {c : Code} {D : va_G} {A : Nat → Prop} {dT : Nat → ClassId} {a : Nat → Nat} {res : Int32 × MS} (C : Cx p s m args meth c cX12_who 4 RX12 (some .int) D A dT) : ∀ (l1 : Int32) (l2 : Int32) (l3 : Int32) (t0 : Int32) (z0 : MS), f_X12_who_J41 l1 l2 l3 t0 z0 = some res → WA p l e ({ frames := 7, cells := 0, slots := 0, locals := 163 } : Room) s m args below meth c (MQ below (QI D dT A ([wM dT a res.2]) res.1) args s 0 0 A) D A 0 0 4 41 ([wM dT a z0]) [(0, .ref (a 0)), (1, .int l1), (2, .int l2), (3, .int l3)] [.int t0, .ref (a 0)] := by
  intro l1 l2 l3 t0 z0 hf
  unfold f_X12_who_J41 at hf
  refine wa_iconst (v := 1) C 42 dX12_who_41 rfl rfl ?_
  obtain ⟨q4, hq4, hf⟩ := bind_ex hf
  refine wa_callVAi (b1 := 0) (q1 := 0) (ci := 12) (As := [.int t0, .int (1 : Int32)]) C 45 dX12_who_42 rfl kv_X12_257 (c_X12_right hq4) ⟨rfl, rfl⟩ ⟨Nat.le_of_ble_eq_true rfl, Nat.le_of_ble_eq_true rfl⟩ rfl rfl rfl rfl rfl ⟨Nat.zero_le _, Nat.zero_le _⟩ (Nat.le_of_ble_eq_true rfl) ?_
  refine wa_if_ne C 50 48 dX12_who_45 rfl rfl (fun c5 => ?_) (fun c5 => ?_)
  · replace hf := ite_f hf c5
    refine wa_aload_n C 0 51 dX12_who_50 rfl rfl ?_
    refine wa_iload_n C 3 52 dX12_who_51 rfl rfl ?_
    obtain ⟨q6, hq6, hf⟩ := bind_ex hf
    refine wa_callVAv (b1 := 0) (q1 := 0) (ci := 12) (As := [.int l3]) C 55 dX12_who_52 rfl kv_X12_405 (c_X12_goesTo hq6) ⟨rfl, rfl⟩ ⟨Nat.le_of_ble_eq_true rfl, Nat.le_of_ble_eq_true rfl⟩ rfl rfl rfl rfl rfl ⟨Nat.zero_le _, Nat.zero_le _⟩ (Nat.le_of_ble_eq_true rfl) ?_
    refine wa_aload_n C 0 56 dX12_who_55 rfl rfl ?_
    refine wa_bipush (v := 86) C 58 dX12_who_56 rfl rfl ?_
    refine wa_iload_n C 1 59 dX12_who_58 rfl rfl ?_
    refine wa_iload_n C 2 60 dX12_who_59 rfl rfl ?_
    obtain ⟨q7, hq7, hf⟩ := bind_ex hf
    refine wa_callVAi (b1 := 0) (q1 := 0) (ci := 12) (As := [.int (86 : Int32), .int l1, .int l2]) C 63 dX12_who_60 rfl kv_X12_310 (c_X12_whoAt hq7) ⟨rfl, rfl⟩ ⟨Nat.le_of_ble_eq_true rfl, Nat.le_of_ble_eq_true rfl⟩ rfl rfl rfl rfl rfl ⟨Nat.zero_le _, Nat.zero_le _⟩ (Nat.le_of_ble_eq_true rfl) ?_
    cases hf
    exact wa_iret C dX12_who_63 rfl rfl
  · replace hf := ite_t hf c5
    refine wa_iconst (v := 0) C 49 dX12_who_48 rfl rfl ?_
    cases hf
    exact wa_iret C dX12_who_49 rfl rfl
set_option maxRecDepth 20000 in
theorem w_X12_who_J40 {p : Program} {l : Launch} {e : Env} {s : State} {m : MethodId} {args : Array Value} {below : List Frame} {meth : Method} {c : Code} {D : va_G} {A : Nat → Prop} {dT : Nat → ClassId} {a : Nat → Nat} {res : Int32 × MS} (C : Cx p s m args meth c cX12_who 4 RX12 (some .int) D A dT) : ∀ (l1 : Int32) (l2 : Int32) (l3 : Int32) (z0 : MS), f_X12_who_J40 l1 l2 l3 z0 = some res → WA p l e ({ frames := 7, cells := 0, slots := 0, locals := 163 } : Room) s m args below meth c (MQ below (QI D dT A ([wM dT a res.2]) res.1) args s 0 0 A) D A 0 0 4 40 ([wM dT a z0]) [(0, .ref (a 0)), (1, .int l1), (2, .int l2), (3, .int l3)] [.ref (a 0)] := by
  intro l1 l2 l3 z0 hf
  unfold f_X12_who_J40 at hf
  refine wa_iconst (v := 0) C 41 dX12_who_40 rfl rfl ?_
  exact w_X12_who_J41 C l1 l2 l3 (0 : Int32) z0 hf
set_option maxRecDepth 20000 in
theorem c_X12_who {l : Launch} {D : va_G} {dT : Nat → ClassId} {a : Nat → Nat} {v : MS} {p0 : Int32} {p1 : Int32} {p2 : Int32} {res : Int32 × MS} (hf : f_X12_who v p0 p1 p2 = some res) : CTi l yX12_who cX12_who 4 (some .int) ({ frames := 7, cells := 0, slots := 0, locals := 163 } : Room) D dT [.ref (a 0), .int p0, .int p1, .int p2] ([wM dT a v]) ([wM dT a res.2]) res.1 := by
  refine CTi.of (by decide) (Nat.le_of_ble_eq_true rfl) rfl ?_
  intro p e s m args below meth c A C
  unfold f_X12_who at hf
  refine wa_aload_n C 0 1 dX12_who_0 rfl rfl ?_
  refine wa_iconst (v := 0) C 2 dX12_who_1 rfl rfl ?_
  obtain ⟨y1, ey1, hf⟩ := bnd_ex hf
  refine wa_put (ws' := [wM dT a y1]) C 5 0 0 0 tyX12 dX12_who_2 rfl iX12 tyX12_ok nmX12 q1449 rfl (Nat.le_of_ble_eq_true rfl) rfl rfl rfl rfl rfl (Nat.le_of_ble_eq_true rfl) (by rw [ey1]; rfl) ?_
  refine wa_aload_n C 0 6 dX12_who_5 rfl rfl ?_
  refine wa_iload_n C 1 7 dX12_who_6 rfl rfl ?_
  refine wa_iconst (v := 0) C 8 dX12_who_7 rfl rfl ?_
  refine wa_bipush (v := 11) C 10 dX12_who_8 rfl rfl ?_
  obtain ⟨q2, hq2, hf⟩ := bind_ex hf
  refine wa_callS0i (As := [.int p0, .int (0 : Int32), .int (11 : Int32)]) C 13 dX12_who_10 rfl ks_X12_346 (c_X12_within hq2) ⟨rfl, rfl⟩ ⟨Nat.le_of_ble_eq_true rfl, Nat.le_of_ble_eq_true rfl⟩ rfl rfl ⟨Nat.zero_le _, Nat.zero_le _⟩ (Nat.le_of_ble_eq_true rfl) ?_
  refine wa_if_eq C 40 16 dX12_who_13 rfl rfl (fun c3 => ?_) (fun c3 => ?_)
  · replace hf := ite_t hf c3
    exact w_X12_who_J40 C p0 p1 p2 y1 hf
  · replace hf := ite_f hf c3
    refine wa_iload_n C 2 17 dX12_who_16 rfl rfl ?_
    refine wa_iconst (v := 0) C 18 dX12_who_17 rfl rfl ?_
    refine wa_bipush (v := 11) C 20 dX12_who_18 rfl rfl ?_
    obtain ⟨q8, hq8, hf⟩ := bind_ex hf
    refine wa_callS0i (As := [.int p1, .int (0 : Int32), .int (11 : Int32)]) C 23 dX12_who_20 rfl ks_X12_346 (c_X12_within hq8) ⟨rfl, rfl⟩ ⟨Nat.le_of_ble_eq_true rfl, Nat.le_of_ble_eq_true rfl⟩ rfl rfl ⟨Nat.zero_le _, Nat.zero_le _⟩ (Nat.le_of_ble_eq_true rfl) ?_
    refine wa_if_eq C 40 26 dX12_who_23 rfl rfl (fun c9 => ?_) (fun c9 => ?_)
    · replace hf := ite_t hf c9
      exact w_X12_who_J40 C p0 p1 p2 y1 hf
    · replace hf := ite_f hf c9
      refine wa_iload_n C 3 27 dX12_who_26 rfl rfl ?_
      refine wa_iconst (v := 0) C 28 dX12_who_27 rfl rfl ?_
      refine wa_bipush (v := 100) C 30 dX12_who_28 rfl rfl ?_
      obtain ⟨q10, hq10, hf⟩ := bind_ex hf
      refine wa_callS0i (As := [.int p2, .int (0 : Int32), .int (100 : Int32)]) C 33 dX12_who_30 rfl ks_X12_346 (c_X12_within hq10) ⟨rfl, rfl⟩ ⟨Nat.le_of_ble_eq_true rfl, Nat.le_of_ble_eq_true rfl⟩ rfl rfl ⟨Nat.zero_le _, Nat.zero_le _⟩ (Nat.le_of_ble_eq_true rfl) ?_
      refine wa_if_eq C 40 36 dX12_who_33 rfl rfl (fun c11 => ?_) (fun c11 => ?_)
      · replace hf := ite_t hf c11
        exact w_X12_who_J40 C p0 p1 p2 y1 hf
      · replace hf := ite_f hf c11
        refine wa_iconst (v := 1) C 37 dX12_who_36 rfl rfl ?_
        refine wa_goto C 41 dX12_who_37 rfl ?_
        exact w_X12_who_J41 C p0 p1 p2 (1 : Int32) y1 hf
def f_X12_areLike_L2 (l1 : Int32) (l2 : Int32) (z0 : MS) : Nat → Int32 → Option (Int32)
  | 0, _ => none
  | n + 1, l3 => (if (12 : Int32) ≤ l3 then some ((1 : Int32)) else grd (vi (((12 : Int32) * l1) + l3) 2412) (grd (vi (((12 : Int32) * l2) + l3) 2412) ((if (z0.2.2 16 ((((12 : Int32) * l1) + l3)).toNatClampNeg) = (z0.2.2 16 ((((12 : Int32) * l2) + l3)).toNatClampNeg) then bnd (l3 + 1) (fun x5 => f_X12_areLike_L2 l1 l2 z0 n x5) else some ((0 : Int32))))))
def f_X12_areLike (v : MS) (p0 : Int32) (p1 : Int32) : Option (Int32) := f_X12_areLike_L2 p0 p1 v FUEL (0 : Int32)
set_option maxRecDepth 20000 in
theorem w_X12_areLike_L2 {p : Program} {l : Launch} {e : Env} {s : State} {m : MethodId} {args : Array Value} {below : List Frame} {meth : Method} {c : Code} {D : va_G} {A : Nat → Prop} {dT : Nat → ClassId} {a : Nat → Nat} {res : Int32} {l1 : Int32} {l2 : Int32} {z0 : MS} (C : Cx p s m args meth c cX12_areLike 4 RX12 (some .boolean) D A dT) : ∀ (n : Nat) (l3 : Int32), f_X12_areLike_L2 l1 l2 z0 n l3 = some res → WA p l e ({ frames := 0, cells := 0, slots := 0, locals := 0 } : Room) s m args below meth c (MQ below (QI D dT A ([wM dT a z0]) res) args s 0 0 A) D A 0 0 4 2 ([wM dT a z0]) [(0, .ref (a 0)), (1, .int l1), (2, .int l2), (3, .int l3)] [] := by
  intro n
  induction n with
  | zero => intro l3 hf; cases hf
  | succ n ih =>
    intro l3 hf
    unfold f_X12_areLike_L2 at hf
    refine wa_iload_n C 3 3 dX12_areLike_2 rfl rfl ?_
    refine wa_bipush (v := 12) C 5 dX12_areLike_3 rfl rfl ?_
    refine wa_icmp_ge C 41 8 dX12_areLike_5 rfl rfl (fun c1 => ?_) (fun c1 => ?_)
    · replace hf := ite_t hf c1
      refine wa_iconst (v := 1) C 42 dX12_areLike_41 rfl rfl ?_
      cases hf
      exact wa_zret C dX12_areLike_42 rfl rfl rfl
    · replace hf := ite_f hf c1
      refine wa_aload_n C 0 9 dX12_areLike_8 rfl rfl ?_
      refine wa_get C 12 0 0 44 dX12_areLike_9 rfl iX12 q1493 rfl (Nat.le_of_ble_eq_true rfl) rfl rfl rfl ?_
      refine wa_bipush (v := 12) C 14 dX12_areLike_12 rfl rfl ?_
      refine wa_iload_n C 1 15 dX12_areLike_14 rfl rfl ?_
      refine wa_imul C 16 dX12_areLike_15 rfl ?_
      refine wa_iload_n C 3 17 dX12_areLike_16 rfl rfl ?_
      refine wa_iadd C 18 dX12_areLike_17 rfl ?_
      obtain ⟨g2, hf⟩ := grd_ex hf
      refine wa_iald C 19 0 16 dX12_areLike_18 rfl rfl rfl (vi_in g2) ?_
      refine wa_aload_n C 0 20 dX12_areLike_19 rfl rfl ?_
      refine wa_get C 23 0 0 44 dX12_areLike_20 rfl iX12 q1493 rfl (Nat.le_of_ble_eq_true rfl) rfl rfl rfl ?_
      refine wa_bipush (v := 12) C 25 dX12_areLike_23 rfl rfl ?_
      refine wa_iload_n C 2 26 dX12_areLike_25 rfl rfl ?_
      refine wa_imul C 27 dX12_areLike_26 rfl ?_
      refine wa_iload_n C 3 28 dX12_areLike_27 rfl rfl ?_
      refine wa_iadd C 29 dX12_areLike_28 rfl ?_
      obtain ⟨g3, hf⟩ := grd_ex hf
      refine wa_iald C 30 0 16 dX12_areLike_29 rfl rfl rfl (vi_in g3) ?_
      refine wa_icmp_eq C 35 33 dX12_areLike_30 rfl rfl (fun c4 => ?_) (fun c4 => ?_)
      · replace hf := ite_t hf c4
        obtain ⟨x5, ex5, hf⟩ := bnd_ex hf
        refine wa_iinc (v := x5) (lv' := [(0, .ref (a 0)), (1, .int l1), (2, .int l2), (3, .int x5)]) C 3 [1, 2, 3, 0] 38 dX12_areLike_35 rfl rfl (by rw [ex5]; rfl) (Nat.le_of_ble_eq_true rfl) rfl ?_
        refine wa_goto C 2 dX12_areLike_38 rfl ?_
        exact ih x5 hf
      · replace hf := ite_f hf c4
        refine wa_iconst (v := 0) C 34 dX12_areLike_33 rfl rfl ?_
        cases hf
        exact wa_zret C dX12_areLike_34 rfl rfl rfl
set_option maxRecDepth 20000 in
theorem c_X12_areLike {l : Launch} {D : va_G} {dT : Nat → ClassId} {a : Nat → Nat} {v : MS} {p0 : Int32} {p1 : Int32} {res : Int32} (hf : f_X12_areLike v p0 p1 = some res) : CTi l yX12_areLike cX12_areLike 4 (some .boolean) ({ frames := 0, cells := 0, slots := 0, locals := 0 } : Room) D dT [.ref (a 0), .int p0, .int p1] ([wM dT a v]) ([wM dT a v]) res := by
  refine CTi.of (by decide) (Nat.le_of_ble_eq_true rfl) rfl ?_
  intro p e s m args below meth c A C
  unfold f_X12_areLike at hf
  refine wa_iconst (v := 0) C 1 dX12_areLike_0 rfl rfl ?_
  refine wa_istore_n (lv' := [(0, .ref (a 0)), (1, .int p0), (2, .int p1), (3, .int (0 : Int32))]) C [1, 2, 3, 0] 2 dX12_areLike_1 rfl (Nat.le_of_ble_eq_true rfl) rfl ?_
  exact w_X12_areLike_L2 C FUEL (0 : Int32) hf
theorem kv_X12_415 : KV RX12 415 yX12_areLike cX12_areLike 4 (some .boolean) 2 := KV.mk q2013 q2015 qs111 q13 q2016 ⟨by decide, by decide, by decide +kernel⟩
def f_X12_round_L91 (k80 : Int32 → Option (Int32 × MS)) (l1 : Int32) (l2 : Int32) (z0 : MS) : Nat → Int32 → Option (Int32 × MS)
  | 0, _ => none
  | n + 1, l3 => (if (200 : Int32) < l3 then bnd (l2 + 1) (fun x9 => k80 x9) else (f_X12_areLike z0 l2 l3).bind (fun q10 => (if q10 = 0 then bnd (l3 + 1) (fun x12 => f_X12_round_L91 k80 l1 l2 z0 n x12) else (if l1 = 0 then some (l2, z0) else some ((l3 - l2), z0)))))
def f_X12_round_L80 (l1 : Int32) (z0 : MS) : Nat → Int32 → Option (Int32 × MS)
  | 0, _ => none
  | n + 1, l2 => (if (200 : Int32) ≤ l2 then some ((-1 : Int32), z0) else bnd (l2 + (1 : Int32)) (fun x7 => f_X12_round_L91 (f_X12_round_L80 l1 z0 n) l1 l2 z0 FUEL x7))
def f_X12_round_L37 (k22 : Int32 → MS → Option (Int32 × MS)) (l1 : Int32) (l2 : Int32) : Nat → Int32 → MS → Option (Int32 × MS)
  | 0, _, _ => none
  | n + 1, l3, z0 => (if (12 : Int32) ≤ l3 then (f_X12_eveningGoes z0 (86 : Int32)).bind (fun q16 => bnd (l2 + 1) (fun x17 => k22 x17 q16)) else grd (vi l3 12) (grd (vi (((12 : Int32) * l2) + l3) 2412) (bnd (z0.1, z0.2.1, uA z0.2.2 16 ((((12 : Int32) * l2) + l3)).toNatClampNeg (z0.2.2 15 (l3).toNatClampNeg)) (fun y20 => bnd (l3 + 1) (fun x21 => f_X12_round_L37 k22 l1 l2 n x21 y20)))))
def f_X12_round_L22 (l1 : Int32) : Nat → Int32 → MS → Option (Int32 × MS)
  | 0, _, _ => none
  | n + 1, l2, z0 => (if (200 : Int32) < l2 then f_X12_round_L80 l1 z0 FUEL (0 : Int32) else (f_X12_laysSizes z0 (86 : Int32)).bind (fun q14 => f_X12_round_L37 (f_X12_round_L22 l1 n) l1 l2 FUEL (0 : Int32) q14))
def f_X12_round (v : MS) (p0 : Int32) : Option (Int32 × MS) := bnd (upd v.1 0 (0 : Int32), v.2) (fun y1 => (f_X12_isWhat y1 p0 (1 : Int32)).bind (fun q2 => (if q2.1 = 0 then some ((0 : Int32), q2.2) else (f_X12_tries q2.2).bind (fun q4 => f_X12_round_L22 p0 FUEL (0 : Int32) q4))))
set_option maxRecDepth 20000 in
theorem w_X12_round_L91 {p : Program} {l : Launch} {e : Env} {s : State} {m : MethodId} {args : Array Value} {below : List Frame} {meth : Method} {c : Code} {D : va_G} {A : Nat → Prop} {dT : Nat → ClassId} {a : Nat → Nat} {res : Int32 × MS} {l1 : Int32} {l2 : Int32} {z0 : MS} (C : Cx p s m args meth c cX12_round 4 RX12 (some .int) D A dT) {k80 : Int32 → Option (Int32 × MS)} (hk80 : ∀ (l2 : Int32), k80 l2 = some res → WA p l e ({ frames := 5, cells := 0, slots := 0, locals := 120 } : Room) s m args below meth c (MQ below (QI D dT A ([wM dT a res.2]) res.1) args s 0 0 A) D A 0 0 4 80 ([wM dT a z0]) [(0, .ref (a 0)), (1, .int l1), (2, .int l2)] []) : ∀ (n : Nat) (l3 : Int32), f_X12_round_L91 k80 l1 l2 z0 n l3 = some res → WA p l e ({ frames := 5, cells := 0, slots := 0, locals := 120 } : Room) s m args below meth c (MQ below (QI D dT A ([wM dT a res.2]) res.1) args s 0 0 A) D A 0 0 4 91 ([wM dT a z0]) [(0, .ref (a 0)), (1, .int l1), (2, .int l2), (3, .int l3)] [] := by
  intro n
  induction n with
  | zero => intro l3 hf; cases hf
  | succ n ih =>
    intro l3 hf
    unfold f_X12_round_L91 at hf
    refine wa_iload_n C 3 92 dX12_round_91 rfl rfl ?_
    refine wa_sipush (v := 200) C 95 dX12_round_92 rfl rfl ?_
    refine wa_icmp_gt C 125 98 dX12_round_95 rfl rfl (fun c8 => ?_) (fun c8 => ?_)
    · replace hf := ite_t hf c8
      obtain ⟨x9, ex9, hf⟩ := bnd_ex hf
      refine wa_iinc (v := x9) (lv' := [(0, .ref (a 0)), (1, .int l1), (2, .int x9), (3, .int l3)]) C 2 [1, 2, 0, 3] 128 dX12_round_125 rfl rfl (by rw [ex9]; rfl) (Nat.le_of_ble_eq_true rfl) rfl ?_
      refine wa_goto C 80 dX12_round_128 rfl ?_
      refine wa_lv (lv' := [(0, .ref (a 0)), (1, .int l1), (2, .int x9)]) [0, 1, 2] rfl ?_
      exact hk80 x9 hf
    · replace hf := ite_f hf c8
      refine wa_aload_n C 0 99 dX12_round_98 rfl rfl ?_
      refine wa_iload_n C 2 100 dX12_round_99 rfl rfl ?_
      refine wa_iload_n C 3 101 dX12_round_100 rfl rfl ?_
      obtain ⟨q10, hq10, hf⟩ := bind_ex hf
      refine wa_callVAi (b1 := 0) (q1 := 0) (ci := 12) (As := [.int l2, .int l3]) C 104 dX12_round_101 rfl kv_X12_415 (c_X12_areLike hq10) ⟨rfl, rfl⟩ ⟨Nat.le_of_ble_eq_true rfl, Nat.le_of_ble_eq_true rfl⟩ rfl rfl rfl rfl rfl ⟨Nat.zero_le _, Nat.zero_le _⟩ (Nat.le_of_ble_eq_true rfl) ?_
      refine wa_if_eq C 119 107 dX12_round_104 rfl rfl (fun c11 => ?_) (fun c11 => ?_)
      · replace hf := ite_t hf c11
        obtain ⟨x12, ex12, hf⟩ := bnd_ex hf
        refine wa_iinc (v := x12) (lv' := [(0, .ref (a 0)), (1, .int l1), (2, .int l2), (3, .int x12)]) C 3 [1, 2, 3, 0] 122 dX12_round_119 rfl rfl (by rw [ex12]; rfl) (Nat.le_of_ble_eq_true rfl) rfl ?_
        refine wa_goto C 91 dX12_round_122 rfl ?_
        exact ih x12 hf
      · replace hf := ite_f hf c11
        refine wa_iload_n C 1 108 dX12_round_107 rfl rfl ?_
        refine wa_if_ne C 115 111 dX12_round_108 rfl rfl (fun c13 => ?_) (fun c13 => ?_)
        · replace hf := ite_f hf c13
          refine wa_iload_n C 3 116 dX12_round_115 rfl rfl ?_
          refine wa_iload_n C 2 117 dX12_round_116 rfl rfl ?_
          refine wa_isub C 118 dX12_round_117 rfl ?_
          cases hf
          exact wa_iret C dX12_round_118 rfl rfl
        · replace hf := ite_t hf c13
          refine wa_iload_n C 2 112 dX12_round_111 rfl rfl ?_
          refine wa_goto C 118 dX12_round_112 rfl ?_
          cases hf
          exact wa_iret C dX12_round_118 rfl rfl
set_option maxRecDepth 20000 in
theorem w_X12_round_L80 {p : Program} {l : Launch} {e : Env} {s : State} {m : MethodId} {args : Array Value} {below : List Frame} {meth : Method} {c : Code} {D : va_G} {A : Nat → Prop} {dT : Nat → ClassId} {a : Nat → Nat} {res : Int32 × MS} {l1 : Int32} {z0 : MS} (C : Cx p s m args meth c cX12_round 4 RX12 (some .int) D A dT) : ∀ (n : Nat) (l2 : Int32), f_X12_round_L80 l1 z0 n l2 = some res → WA p l e ({ frames := 5, cells := 0, slots := 0, locals := 120 } : Room) s m args below meth c (MQ below (QI D dT A ([wM dT a res.2]) res.1) args s 0 0 A) D A 0 0 4 80 ([wM dT a z0]) [(0, .ref (a 0)), (1, .int l1), (2, .int l2)] [] := by
  intro n
  induction n with
  | zero => intro l2 hf; cases hf
  | succ n ih =>
    intro l2 hf
    unfold f_X12_round_L80 at hf
    refine wa_iload_n C 2 81 dX12_round_80 rfl rfl ?_
    refine wa_sipush (v := 200) C 84 dX12_round_81 rfl rfl ?_
    refine wa_icmp_ge C 131 87 dX12_round_84 rfl rfl (fun c6 => ?_) (fun c6 => ?_)
    · replace hf := ite_t hf c6
      refine wa_iconst (v := (-1)) C 132 dX12_round_131 rfl rfl ?_
      cases hf
      exact wa_iret C dX12_round_132 rfl rfl
    · replace hf := ite_f hf c6
      refine wa_iload_n C 2 88 dX12_round_87 rfl rfl ?_
      refine wa_iconst (v := 1) C 89 dX12_round_88 rfl rfl ?_
      refine wa_iadd C 90 dX12_round_89 rfl ?_
      obtain ⟨x7, ex7, hf⟩ := bnd_ex hf
      refine wa_topi ex7 ?_
      refine wa_istore_n (lv' := [(0, .ref (a 0)), (1, .int l1), (2, .int l2), (3, .int x7)]) C [1, 2, 3, 0] 91 dX12_round_90 rfl (Nat.le_of_ble_eq_true rfl) rfl ?_
      exact w_X12_round_L91 C ih FUEL x7 hf
set_option maxRecDepth 20000 in
theorem w_X12_round_L37 {p : Program} {l : Launch} {e : Env} {s : State} {m : MethodId} {args : Array Value} {below : List Frame} {meth : Method} {c : Code} {D : va_G} {A : Nat → Prop} {dT : Nat → ClassId} {a : Nat → Nat} {res : Int32 × MS} {l1 : Int32} {l2 : Int32} (C : Cx p s m args meth c cX12_round 4 RX12 (some .int) D A dT) {k22 : Int32 → MS → Option (Int32 × MS)} (hk22 : ∀ (l2 : Int32) (z0 : MS), k22 l2 z0 = some res → WA p l e ({ frames := 5, cells := 0, slots := 0, locals := 120 } : Room) s m args below meth c (MQ below (QI D dT A ([wM dT a res.2]) res.1) args s 0 0 A) D A 0 0 4 22 ([wM dT a z0]) [(0, .ref (a 0)), (1, .int l1), (2, .int l2)] []) : ∀ (n : Nat) (l3 : Int32) (z0 : MS), f_X12_round_L37 k22 l1 l2 n l3 z0 = some res → WA p l e ({ frames := 5, cells := 0, slots := 0, locals := 120 } : Room) s m args below meth c (MQ below (QI D dT A ([wM dT a res.2]) res.1) args s 0 0 A) D A 0 0 4 37 ([wM dT a z0]) [(0, .ref (a 0)), (1, .int l1), (2, .int l2), (3, .int l3)] [] := by
  intro n
  induction n with
  | zero => intro l3 z0 hf; cases hf
  | succ n ih =>
    intro l3 z0 hf
    unfold f_X12_round_L37 at hf
    refine wa_iload_n C 3 38 dX12_round_37 rfl rfl ?_
    refine wa_bipush (v := 12) C 40 dX12_round_38 rfl rfl ?_
    refine wa_icmp_ge C 66 43 dX12_round_40 rfl rfl (fun c15 => ?_) (fun c15 => ?_)
    · replace hf := ite_t hf c15
      refine wa_aload_n C 0 67 dX12_round_66 rfl rfl ?_
      refine wa_bipush (v := 86) C 69 dX12_round_67 rfl rfl ?_
      obtain ⟨q16, hq16, hf⟩ := bind_ex hf
      refine wa_callVAv (b1 := 0) (q1 := 0) (ci := 12) (As := [.int (86 : Int32)]) C 72 dX12_round_69 rfl kv_X12_334 (c_X12_eveningGoes hq16) ⟨rfl, rfl⟩ ⟨Nat.le_of_ble_eq_true rfl, Nat.le_of_ble_eq_true rfl⟩ rfl rfl rfl rfl rfl ⟨Nat.zero_le _, Nat.zero_le _⟩ (Nat.le_of_ble_eq_true rfl) ?_
      obtain ⟨x17, ex17, hf⟩ := bnd_ex hf
      refine wa_iinc (v := x17) (lv' := [(0, .ref (a 0)), (1, .int l1), (2, .int x17), (3, .int l3)]) C 2 [1, 2, 0, 3] 75 dX12_round_72 rfl rfl (by rw [ex17]; rfl) (Nat.le_of_ble_eq_true rfl) rfl ?_
      refine wa_goto C 22 dX12_round_75 rfl ?_
      refine wa_lv (lv' := [(0, .ref (a 0)), (1, .int l1), (2, .int x17)]) [0, 1, 2] rfl ?_
      exact hk22 x17 q16 hf
    · replace hf := ite_f hf c15
      refine wa_aload_n C 0 44 dX12_round_43 rfl rfl ?_
      refine wa_get C 47 0 0 44 dX12_round_44 rfl iX12 q1493 rfl (Nat.le_of_ble_eq_true rfl) rfl rfl rfl ?_
      refine wa_bipush (v := 12) C 49 dX12_round_47 rfl rfl ?_
      refine wa_iload_n C 2 50 dX12_round_49 rfl rfl ?_
      refine wa_imul C 51 dX12_round_50 rfl ?_
      refine wa_iload_n C 3 52 dX12_round_51 rfl rfl ?_
      refine wa_iadd C 53 dX12_round_52 rfl ?_
      refine wa_aload_n C 0 54 dX12_round_53 rfl rfl ?_
      refine wa_get C 57 0 0 43 dX12_round_54 rfl iX12 q1492 rfl (Nat.le_of_ble_eq_true rfl) rfl rfl rfl ?_
      refine wa_iload_n C 3 58 dX12_round_57 rfl rfl ?_
      obtain ⟨g18, hf⟩ := grd_ex hf
      refine wa_iald C 59 0 15 dX12_round_58 rfl rfl rfl (vi_in g18) ?_
      obtain ⟨g19, hf⟩ := grd_ex hf
      obtain ⟨y20, ey20, hf⟩ := bnd_ex hf
      refine wa_iast (ws' := [wM dT a y20]) C 60 0 16 dX12_round_59 rfl rfl rfl (vi_in g19) (by rw [ey20]; rfl) ?_
      obtain ⟨x21, ex21, hf⟩ := bnd_ex hf
      refine wa_iinc (v := x21) (lv' := [(0, .ref (a 0)), (1, .int l1), (2, .int l2), (3, .int x21)]) C 3 [1, 2, 3, 0] 63 dX12_round_60 rfl rfl (by rw [ex21]; rfl) (Nat.le_of_ble_eq_true rfl) rfl ?_
      refine wa_goto C 37 dX12_round_63 rfl ?_
      exact ih x21 y20 hf
set_option maxRecDepth 20000 in
theorem w_X12_round_L22 {p : Program} {l : Launch} {e : Env} {s : State} {m : MethodId} {args : Array Value} {below : List Frame} {meth : Method} {c : Code} {D : va_G} {A : Nat → Prop} {dT : Nat → ClassId} {a : Nat → Nat} {res : Int32 × MS} {l1 : Int32} (C : Cx p s m args meth c cX12_round 4 RX12 (some .int) D A dT) : ∀ (n : Nat) (l2 : Int32) (z0 : MS), f_X12_round_L22 l1 n l2 z0 = some res → WA p l e ({ frames := 5, cells := 0, slots := 0, locals := 120 } : Room) s m args below meth c (MQ below (QI D dT A ([wM dT a res.2]) res.1) args s 0 0 A) D A 0 0 4 22 ([wM dT a z0]) [(0, .ref (a 0)), (1, .int l1), (2, .int l2)] [] := by
  intro n
  induction n with
  | zero => intro l2 z0 hf; cases hf
  | succ n ih =>
    intro l2 z0 hf
    unfold f_X12_round_L22 at hf
    refine wa_iload_n C 2 23 dX12_round_22 rfl rfl ?_
    refine wa_sipush (v := 200) C 26 dX12_round_23 rfl rfl ?_
    refine wa_icmp_gt C 78 29 dX12_round_26 rfl rfl (fun c5 => ?_) (fun c5 => ?_)
    · replace hf := ite_t hf c5
      refine wa_iconst (v := 0) C 79 dX12_round_78 rfl rfl ?_
      refine wa_istore_n (lv' := [(0, .ref (a 0)), (1, .int l1), (2, .int (0 : Int32))]) C [1, 2, 0] 80 dX12_round_79 rfl (Nat.le_of_ble_eq_true rfl) rfl ?_
      exact w_X12_round_L80 C FUEL (0 : Int32) hf
    · replace hf := ite_f hf c5
      refine wa_aload_n C 0 30 dX12_round_29 rfl rfl ?_
      refine wa_bipush (v := 86) C 32 dX12_round_30 rfl rfl ?_
      obtain ⟨q14, hq14, hf⟩ := bind_ex hf
      refine wa_callVAv (b1 := 0) (q1 := 0) (ci := 12) (As := [.int (86 : Int32)]) C 35 dX12_round_32 rfl kv_X12_343 (c_X12_laysSizes hq14) ⟨rfl, rfl⟩ ⟨Nat.le_of_ble_eq_true rfl, Nat.le_of_ble_eq_true rfl⟩ rfl rfl rfl rfl rfl ⟨Nat.zero_le _, Nat.zero_le _⟩ (Nat.le_of_ble_eq_true rfl) ?_
      refine wa_iconst (v := 0) C 36 dX12_round_35 rfl rfl ?_
      refine wa_istore_n (lv' := [(0, .ref (a 0)), (1, .int l1), (2, .int l2), (3, .int (0 : Int32))]) C [1, 2, 3, 0] 37 dX12_round_36 rfl (Nat.le_of_ble_eq_true rfl) rfl ?_
      exact w_X12_round_L37 C ih FUEL (0 : Int32) q14 hf
set_option maxRecDepth 20000 in
theorem c_X12_round {l : Launch} {D : va_G} {dT : Nat → ClassId} {a : Nat → Nat} {v : MS} {p0 : Int32} {res : Int32 × MS} (hf : f_X12_round v p0 = some res) : CTi l yX12_round cX12_round 4 (some .int) ({ frames := 5, cells := 0, slots := 0, locals := 120 } : Room) D dT [.ref (a 0), .int p0] ([wM dT a v]) ([wM dT a res.2]) res.1 := by
  refine CTi.of (by decide) (Nat.le_of_ble_eq_true rfl) rfl ?_
  intro p e s m args below meth c A C
  unfold f_X12_round at hf
  refine wa_aload_n C 0 1 dX12_round_0 rfl rfl ?_
  refine wa_iconst (v := 0) C 2 dX12_round_1 rfl rfl ?_
  obtain ⟨y1, ey1, hf⟩ := bnd_ex hf
  refine wa_put (ws' := [wM dT a y1]) C 5 0 0 0 tyX12 dX12_round_2 rfl iX12 tyX12_ok nmX12 q1449 rfl (Nat.le_of_ble_eq_true rfl) rfl rfl rfl rfl rfl (Nat.le_of_ble_eq_true rfl) (by rw [ey1]; rfl) ?_
  refine wa_aload_n C 0 6 dX12_round_5 rfl rfl ?_
  refine wa_iload_n C 1 7 dX12_round_6 rfl rfl ?_
  refine wa_iconst (v := 1) C 8 dX12_round_7 rfl rfl ?_
  obtain ⟨q2, hq2, hf⟩ := bind_ex hf
  refine wa_callVAi (b1 := 0) (q1 := 0) (ci := 12) (As := [.int p0, .int (1 : Int32)]) C 11 dX12_round_8 rfl kv_X12_371 (c_X12_isWhat hq2) ⟨rfl, rfl⟩ ⟨Nat.le_of_ble_eq_true rfl, Nat.le_of_ble_eq_true rfl⟩ rfl rfl rfl rfl rfl ⟨Nat.zero_le _, Nat.zero_le _⟩ (Nat.le_of_ble_eq_true rfl) ?_
  refine wa_if_ne C 16 14 dX12_round_11 rfl rfl (fun c3 => ?_) (fun c3 => ?_)
  · replace hf := ite_f hf c3
    refine wa_aload_n C 0 17 dX12_round_16 rfl rfl ?_
    obtain ⟨q4, hq4, hf⟩ := bind_ex hf
    refine wa_callVAv (b1 := 0) (q1 := 0) (ci := 12) (As := []) C 20 dX12_round_17 rfl kv_X12_337 (c_X12_tries hq4) ⟨rfl, rfl⟩ ⟨Nat.le_of_ble_eq_true rfl, Nat.le_of_ble_eq_true rfl⟩ rfl rfl rfl rfl rfl ⟨Nat.zero_le _, Nat.zero_le _⟩ (Nat.le_of_ble_eq_true rfl) ?_
    refine wa_iconst (v := 0) C 21 dX12_round_20 rfl rfl ?_
    refine wa_istore_n (lv' := [(0, .ref (a 0)), (1, .int p0), (2, .int (0 : Int32))]) C [1, 2, 0] 22 dX12_round_21 rfl (Nat.le_of_ble_eq_true rfl) rfl ?_
    exact w_X12_round_L22 C FUEL (0 : Int32) q4 hf
  · replace hf := ite_t hf c3
    refine wa_iconst (v := 0) C 15 dX12_round_14 rfl rfl ?_
    cases hf
    exact wa_iret C dX12_round_15 rfl rfl
def f_X12_asNow_J68 (k11 : Int32 → MS → Option (Int32 × MS)) (l1 : Int32) (l2 : Int32) (z0 : MS) : Option (Int32 × MS) := (if l2 = 0 then bnd (l1 + 1) (fun x7 => k11 x7 z0) else some (l1, z0))
def f_X12_asNow_L28 (k11 : Int32 → MS → Option (Int32 × MS)) (l1 : Int32) (z0 : MS) : Nat → Int32 → Int32 → Option (Int32 × MS)
  | 0, _, _ => none
  | n + 1, l2, l3 => (if (z0.1 1) ≤ l3 then f_X12_asNow_J68 (k11) l1 l2 z0 else (if l2 = 0 then f_X12_asNow_J68 (k11) l1 l2 z0 else (f_X12_withOne z0 (86 : Int32) l3).bind (fun q9 => (f_X12_withOne z0 (0 : Int32) l3).bind (fun q10 => (if q9 = q10 then bnd (l3 + 1) (fun x13 => f_X12_asNow_L28 k11 l1 z0 n (1 : Int32) x13) else bnd (l3 + 1) (fun x12 => f_X12_asNow_L28 k11 l1 z0 n (0 : Int32) x12))))))
def f_X12_asNow_L11 : Nat → Int32 → MS → Option (Int32 × MS)
  | 0, _, _ => none
  | n + 1, l1, z0 => (if (200 : Int32) < l1 then some ((-1 : Int32), z0) else (f_X12_eveningGoes z0 (86 : Int32)).bind (fun q4 => f_X12_asNow_L28 (f_X12_asNow_L11 n) l1 q4 FUEL (1 : Int32) (0 : Int32)))
def f_X12_asNow (v : MS) : Option (Int32 × MS) := bnd (upd v.1 0 (0 : Int32), v.2) (fun y1 => (f_X12_tries y1).bind (fun q2 => f_X12_asNow_L11 FUEL (1 : Int32) q2))
set_option maxRecDepth 20000 in
theorem w_X12_asNow_J68 {p : Program} {l : Launch} {e : Env} {s : State} {m : MethodId} {args : Array Value} {below : List Frame} {meth : Method} {c : Code} {D : va_G} {A : Nat → Prop} {dT : Nat → ClassId} {a : Nat → Nat} {res : Int32 × MS} (C : Cx p s m args meth c cX12_asNow 4 RX12 (some .int) D A dT) {k11 : Int32 → MS → Option (Int32 × MS)} (hk11 : ∀ (l1 : Int32) (z0 : MS), k11 l1 z0 = some res → WA p l e ({ frames := 5, cells := 0, slots := 0, locals := 120 } : Room) s m args below meth c (MQ below (QI D dT A ([wM dT a res.2]) res.1) args s 0 0 A) D A 0 0 4 11 ([wM dT a z0]) [(0, .ref (a 0)), (1, .int l1)] []) : ∀ (l1 : Int32) (l2 : Int32) (z0 : MS), f_X12_asNow_J68 k11 l1 l2 z0 = some res → WA p l e ({ frames := 5, cells := 0, slots := 0, locals := 120 } : Room) s m args below meth c (MQ below (QI D dT A ([wM dT a res.2]) res.1) args s 0 0 A) D A 0 0 4 68 ([wM dT a z0]) [(0, .ref (a 0)), (1, .int l1), (2, .int l2)] [] := by
  intro l1 l2 z0 hf
  unfold f_X12_asNow_J68 at hf
  refine wa_iload_n C 2 69 dX12_asNow_68 rfl rfl ?_
  refine wa_if_eq C 74 72 dX12_asNow_69 rfl rfl (fun c6 => ?_) (fun c6 => ?_)
  · replace hf := ite_t hf c6
    obtain ⟨x7, ex7, hf⟩ := bnd_ex hf
    refine wa_iinc (v := x7) (lv' := [(0, .ref (a 0)), (1, .int x7), (2, .int l2)]) C 1 [1, 0, 2] 77 dX12_asNow_74 rfl rfl (by rw [ex7]; rfl) (Nat.le_of_ble_eq_true rfl) rfl ?_
    refine wa_goto C 11 dX12_asNow_77 rfl ?_
    refine wa_lv (lv' := [(0, .ref (a 0)), (1, .int x7)]) [0, 1] rfl ?_
    exact hk11 x7 z0 hf
  · replace hf := ite_f hf c6
    refine wa_iload_n C 1 73 dX12_asNow_72 rfl rfl ?_
    cases hf
    exact wa_iret C dX12_asNow_73 rfl rfl
set_option maxRecDepth 20000 in
theorem w_X12_asNow_L28 {p : Program} {l : Launch} {e : Env} {s : State} {m : MethodId} {args : Array Value} {below : List Frame} {meth : Method} {c : Code} {D : va_G} {A : Nat → Prop} {dT : Nat → ClassId} {a : Nat → Nat} {res : Int32 × MS} {l1 : Int32} {z0 : MS} (C : Cx p s m args meth c cX12_asNow 4 RX12 (some .int) D A dT) {k11 : Int32 → MS → Option (Int32 × MS)} (hk11 : ∀ (l1 : Int32) (z0 : MS), k11 l1 z0 = some res → WA p l e ({ frames := 5, cells := 0, slots := 0, locals := 120 } : Room) s m args below meth c (MQ below (QI D dT A ([wM dT a res.2]) res.1) args s 0 0 A) D A 0 0 4 11 ([wM dT a z0]) [(0, .ref (a 0)), (1, .int l1)] []) : ∀ (n : Nat) (l2 : Int32) (l3 : Int32), f_X12_asNow_L28 k11 l1 z0 n l2 l3 = some res → WA p l e ({ frames := 5, cells := 0, slots := 0, locals := 120 } : Room) s m args below meth c (MQ below (QI D dT A ([wM dT a res.2]) res.1) args s 0 0 A) D A 0 0 4 28 ([wM dT a z0]) [(0, .ref (a 0)), (1, .int l1), (2, .int l2), (3, .int l3)] [] := by
  intro n
  induction n with
  | zero => intro l2 l3 hf; cases hf
  | succ n ih =>
    intro l2 l3 hf
    unfold f_X12_asNow_L28 at hf
    refine wa_iload_n C 3 29 dX12_asNow_28 rfl rfl ?_
    refine wa_aload_n C 0 30 dX12_asNow_29 rfl rfl ?_
    refine wa_get C 33 0 0 1 dX12_asNow_30 rfl iX12 q1450 rfl (Nat.le_of_ble_eq_true rfl) rfl rfl rfl ?_
    refine wa_icmp_ge C 68 36 dX12_asNow_33 rfl rfl (fun c5 => ?_) (fun c5 => ?_)
    · replace hf := ite_t hf c5
      refine wa_lv (lv' := [(0, .ref (a 0)), (1, .int l1), (2, .int l2)]) [0, 1, 2] rfl ?_
      exact w_X12_asNow_J68 C hk11 l1 l2 z0 hf
    · replace hf := ite_f hf c5
      refine wa_iload_n C 2 37 dX12_asNow_36 rfl rfl ?_
      refine wa_if_eq C 68 40 dX12_asNow_37 rfl rfl (fun c8 => ?_) (fun c8 => ?_)
      · replace hf := ite_t hf c8
        refine wa_lv (lv' := [(0, .ref (a 0)), (1, .int l1), (2, .int l2)]) [0, 1, 2] rfl ?_
        exact w_X12_asNow_J68 C hk11 l1 l2 z0 hf
      · replace hf := ite_f hf c8
        refine wa_aload_n C 0 41 dX12_asNow_40 rfl rfl ?_
        refine wa_bipush (v := 86) C 43 dX12_asNow_41 rfl rfl ?_
        refine wa_iload_n C 3 44 dX12_asNow_43 rfl rfl ?_
        obtain ⟨q9, hq9, hf⟩ := bind_ex hf
        refine wa_callVAi (b1 := 0) (q1 := 0) (ci := 12) (As := [.int (86 : Int32), .int l3]) C 47 dX12_asNow_44 rfl kv_X12_374 (c_X12_withOne hq9) ⟨rfl, rfl⟩ ⟨Nat.le_of_ble_eq_true rfl, Nat.le_of_ble_eq_true rfl⟩ rfl rfl rfl rfl rfl ⟨Nat.zero_le _, Nat.zero_le _⟩ (Nat.le_of_ble_eq_true rfl) ?_
        refine wa_aload_n C 0 48 dX12_asNow_47 rfl rfl ?_
        refine wa_iconst (v := 0) C 49 dX12_asNow_48 rfl rfl ?_
        refine wa_iload_n C 3 50 dX12_asNow_49 rfl rfl ?_
        obtain ⟨q10, hq10, hf⟩ := bind_ex hf
        refine wa_callVAi (b1 := 0) (q1 := 0) (ci := 12) (As := [.int (0 : Int32), .int l3]) C 53 dX12_asNow_50 rfl kv_X12_374 (c_X12_withOne hq10) ⟨rfl, rfl⟩ ⟨Nat.le_of_ble_eq_true rfl, Nat.le_of_ble_eq_true rfl⟩ rfl rfl rfl rfl rfl ⟨Nat.zero_le _, Nat.zero_le _⟩ (Nat.le_of_ble_eq_true rfl) ?_
        refine wa_icmp_ne C 60 56 dX12_asNow_53 rfl rfl (fun c11 => ?_) (fun c11 => ?_)
        · replace hf := ite_f hf c11
          refine wa_iconst (v := 0) C 61 dX12_asNow_60 rfl rfl ?_
          refine wa_istore_n (lv' := [(0, .ref (a 0)), (1, .int l1), (2, .int (0 : Int32)), (3, .int l3)]) C [1, 2, 0, 3] 62 dX12_asNow_61 rfl (Nat.le_of_ble_eq_true rfl) rfl ?_
          obtain ⟨x12, ex12, hf⟩ := bnd_ex hf
          refine wa_iinc (v := x12) (lv' := [(0, .ref (a 0)), (1, .int l1), (2, .int (0 : Int32)), (3, .int x12)]) C 3 [1, 2, 3, 0] 65 dX12_asNow_62 rfl rfl (by rw [ex12]; rfl) (Nat.le_of_ble_eq_true rfl) rfl ?_
          refine wa_goto C 28 dX12_asNow_65 rfl ?_
          exact ih (0 : Int32) x12 hf
        · replace hf := ite_t hf c11
          refine wa_iconst (v := 1) C 57 dX12_asNow_56 rfl rfl ?_
          refine wa_goto C 61 dX12_asNow_57 rfl ?_
          refine wa_istore_n (lv' := [(0, .ref (a 0)), (1, .int l1), (2, .int (1 : Int32)), (3, .int l3)]) C [1, 2, 0, 3] 62 dX12_asNow_61 rfl (Nat.le_of_ble_eq_true rfl) rfl ?_
          obtain ⟨x13, ex13, hf⟩ := bnd_ex hf
          refine wa_iinc (v := x13) (lv' := [(0, .ref (a 0)), (1, .int l1), (2, .int (1 : Int32)), (3, .int x13)]) C 3 [1, 2, 3, 0] 65 dX12_asNow_62 rfl rfl (by rw [ex13]; rfl) (Nat.le_of_ble_eq_true rfl) rfl ?_
          refine wa_goto C 28 dX12_asNow_65 rfl ?_
          exact ih (1 : Int32) x13 hf
set_option maxRecDepth 20000 in
theorem w_X12_asNow_L11 {p : Program} {l : Launch} {e : Env} {s : State} {m : MethodId} {args : Array Value} {below : List Frame} {meth : Method} {c : Code} {D : va_G} {A : Nat → Prop} {dT : Nat → ClassId} {a : Nat → Nat} {res : Int32 × MS} (C : Cx p s m args meth c cX12_asNow 4 RX12 (some .int) D A dT) : ∀ (n : Nat) (l1 : Int32) (z0 : MS), f_X12_asNow_L11 n l1 z0 = some res → WA p l e ({ frames := 5, cells := 0, slots := 0, locals := 120 } : Room) s m args below meth c (MQ below (QI D dT A ([wM dT a res.2]) res.1) args s 0 0 A) D A 0 0 4 11 ([wM dT a z0]) [(0, .ref (a 0)), (1, .int l1)] [] := by
  intro n
  induction n with
  | zero => intro l1 z0 hf; cases hf
  | succ n ih =>
    intro l1 z0 hf
    unfold f_X12_asNow_L11 at hf
    refine wa_iload_n C 1 12 dX12_asNow_11 rfl rfl ?_
    refine wa_sipush (v := 200) C 15 dX12_asNow_12 rfl rfl ?_
    refine wa_icmp_gt C 80 18 dX12_asNow_15 rfl rfl (fun c3 => ?_) (fun c3 => ?_)
    · replace hf := ite_t hf c3
      refine wa_iconst (v := (-1)) C 81 dX12_asNow_80 rfl rfl ?_
      cases hf
      exact wa_iret C dX12_asNow_81 rfl rfl
    · replace hf := ite_f hf c3
      refine wa_aload_n C 0 19 dX12_asNow_18 rfl rfl ?_
      refine wa_bipush (v := 86) C 21 dX12_asNow_19 rfl rfl ?_
      obtain ⟨q4, hq4, hf⟩ := bind_ex hf
      refine wa_callVAv (b1 := 0) (q1 := 0) (ci := 12) (As := [.int (86 : Int32)]) C 24 dX12_asNow_21 rfl kv_X12_334 (c_X12_eveningGoes hq4) ⟨rfl, rfl⟩ ⟨Nat.le_of_ble_eq_true rfl, Nat.le_of_ble_eq_true rfl⟩ rfl rfl rfl rfl rfl ⟨Nat.zero_le _, Nat.zero_le _⟩ (Nat.le_of_ble_eq_true rfl) ?_
      refine wa_iconst (v := 1) C 25 dX12_asNow_24 rfl rfl ?_
      refine wa_istore_n (lv' := [(0, .ref (a 0)), (1, .int l1), (2, .int (1 : Int32))]) C [1, 2, 0] 26 dX12_asNow_25 rfl (Nat.le_of_ble_eq_true rfl) rfl ?_
      refine wa_iconst (v := 0) C 27 dX12_asNow_26 rfl rfl ?_
      refine wa_istore_n (lv' := [(0, .ref (a 0)), (1, .int l1), (2, .int (1 : Int32)), (3, .int (0 : Int32))]) C [1, 2, 3, 0] 28 dX12_asNow_27 rfl (Nat.le_of_ble_eq_true rfl) rfl ?_
      exact w_X12_asNow_L28 C ih FUEL (1 : Int32) (0 : Int32) hf
set_option maxRecDepth 20000 in
theorem c_X12_asNow {l : Launch} {D : va_G} {dT : Nat → ClassId} {a : Nat → Nat} {v : MS} {res : Int32 × MS} (hf : f_X12_asNow v = some res) : CTi l yX12_asNow cX12_asNow 4 (some .int) ({ frames := 5, cells := 0, slots := 0, locals := 120 } : Room) D dT [.ref (a 0)] ([wM dT a v]) ([wM dT a res.2]) res.1 := by
  refine CTi.of (by decide) (Nat.le_of_ble_eq_true rfl) rfl ?_
  intro p e s m args below meth c A C
  unfold f_X12_asNow at hf
  refine wa_aload_n C 0 1 dX12_asNow_0 rfl rfl ?_
  refine wa_iconst (v := 0) C 2 dX12_asNow_1 rfl rfl ?_
  obtain ⟨y1, ey1, hf⟩ := bnd_ex hf
  refine wa_put (ws' := [wM dT a y1]) C 5 0 0 0 tyX12 dX12_asNow_2 rfl iX12 tyX12_ok nmX12 q1449 rfl (Nat.le_of_ble_eq_true rfl) rfl rfl rfl rfl rfl (Nat.le_of_ble_eq_true rfl) (by rw [ey1]; rfl) ?_
  refine wa_aload_n C 0 6 dX12_asNow_5 rfl rfl ?_
  obtain ⟨q2, hq2, hf⟩ := bind_ex hf
  refine wa_callVAv (b1 := 0) (q1 := 0) (ci := 12) (As := []) C 9 dX12_asNow_6 rfl kv_X12_337 (c_X12_tries hq2) ⟨rfl, rfl⟩ ⟨Nat.le_of_ble_eq_true rfl, Nat.le_of_ble_eq_true rfl⟩ rfl rfl rfl rfl rfl ⟨Nat.zero_le _, Nat.zero_le _⟩ (Nat.le_of_ble_eq_true rfl) ?_
  refine wa_iconst (v := 1) C 10 dX12_asNow_9 rfl rfl ?_
  refine wa_istore_n (lv' := [(0, .ref (a 0)), (1, .int (1 : Int32))]) C [1, 0] 11 dX12_asNow_10 rfl (Nat.le_of_ble_eq_true rfl) rfl ?_
  exact w_X12_asNow_L11 C FUEL (1 : Int32) q2 hf
def f_X12_known_L39 (l1 : Int32) (l2 : Int32) : Nat → Int32 → Int32 → MS → Option (Int32 × MS)
  | 0, _, _, _ => none
  | n + 1, l3, l4, z0 => (if l2 ≤ l4 then some (l3, z0) else (f_X12_eveningGoes z0 (86 : Int32)).bind (fun q9 => (f_X12_withOne q9 (86 : Int32) l1).bind (fun q10 => bnd (l3 ||| q10) (fun x11 => bnd (l4 + 1) (fun x12 => f_X12_known_L39 l1 l2 n x11 x12 q9)))))
def f_X12_known (v : MS) (p0 : Int32) (p1 : Int32) : Option (Int32 × MS) := bnd (upd v.1 0 (0 : Int32), v.2) (fun y1 => (f_X12_isPerson y1 p0).bind (fun q2 => (if q2.1 = 0 then some ((0 : Int32), q2.2) else (f_X12_isSoon q2.2 p1 (0 : Int32) (2 : Int32)).bind (fun q4 => (if q4.1 = 0 then some ((0 : Int32), q4.2) else (f_X12_withOne q4.2 (0 : Int32) p0).bind (fun q6 => (f_X12_tries q4.2).bind (fun q7 => f_X12_known_L39 p0 p1 FUEL q6 (0 : Int32) q7)))))))
set_option maxRecDepth 20000 in
theorem w_X12_known_L39 {p : Program} {l : Launch} {e : Env} {s : State} {m : MethodId} {args : Array Value} {below : List Frame} {meth : Method} {c : Code} {D : va_G} {A : Nat → Prop} {dT : Nat → ClassId} {a : Nat → Nat} {res : Int32 × MS} {l1 : Int32} {l2 : Int32} (C : Cx p s m args meth c cX12_known 5 RX12 (some .int) D A dT) : ∀ (n : Nat) (l3 : Int32) (l4 : Int32) (z0 : MS), f_X12_known_L39 l1 l2 n l3 l4 z0 = some res → WA p l e ({ frames := 5, cells := 0, slots := 0, locals := 120 } : Room) s m args below meth c (MQ below (QI D dT A ([wM dT a res.2]) res.1) args s 0 0 A) D A 0 0 5 39 ([wM dT a z0]) [(0, .ref (a 0)), (1, .int l1), (2, .int l2), (3, .int l3), (4, .int l4)] [] := by
  intro n
  induction n with
  | zero => intro l3 l4 z0 hf; cases hf
  | succ n ih =>
    intro l3 l4 z0 hf
    unfold f_X12_known_L39 at hf
    refine wa_iload C 4 41 dX12_known_39 rfl rfl ?_
    refine wa_iload_n C 2 42 dX12_known_41 rfl rfl ?_
    refine wa_icmp_ge C 67 45 dX12_known_42 rfl rfl (fun c8 => ?_) (fun c8 => ?_)
    · replace hf := ite_t hf c8
      refine wa_iload_n C 3 68 dX12_known_67 rfl rfl ?_
      cases hf
      exact wa_iret C dX12_known_68 rfl rfl
    · replace hf := ite_f hf c8
      refine wa_aload_n C 0 46 dX12_known_45 rfl rfl ?_
      refine wa_bipush (v := 86) C 48 dX12_known_46 rfl rfl ?_
      obtain ⟨q9, hq9, hf⟩ := bind_ex hf
      refine wa_callVAv (b1 := 0) (q1 := 0) (ci := 12) (As := [.int (86 : Int32)]) C 51 dX12_known_48 rfl kv_X12_334 (c_X12_eveningGoes hq9) ⟨rfl, rfl⟩ ⟨Nat.le_of_ble_eq_true rfl, Nat.le_of_ble_eq_true rfl⟩ rfl rfl rfl rfl rfl ⟨Nat.zero_le _, Nat.zero_le _⟩ (Nat.le_of_ble_eq_true rfl) ?_
      refine wa_iload_n C 3 52 dX12_known_51 rfl rfl ?_
      refine wa_aload_n C 0 53 dX12_known_52 rfl rfl ?_
      refine wa_bipush (v := 86) C 55 dX12_known_53 rfl rfl ?_
      refine wa_iload_n C 1 56 dX12_known_55 rfl rfl ?_
      obtain ⟨q10, hq10, hf⟩ := bind_ex hf
      refine wa_callVAi (b1 := 0) (q1 := 0) (ci := 12) (As := [.int (86 : Int32), .int l1]) C 59 dX12_known_56 rfl kv_X12_374 (c_X12_withOne hq10) ⟨rfl, rfl⟩ ⟨Nat.le_of_ble_eq_true rfl, Nat.le_of_ble_eq_true rfl⟩ rfl rfl rfl rfl rfl ⟨Nat.zero_le _, Nat.zero_le _⟩ (Nat.le_of_ble_eq_true rfl) ?_
      refine wa_ior C 60 dX12_known_59 rfl ?_
      obtain ⟨x11, ex11, hf⟩ := bnd_ex hf
      refine wa_topi ex11 ?_
      refine wa_istore_n (lv' := [(0, .ref (a 0)), (1, .int l1), (2, .int l2), (3, .int x11), (4, .int l4)]) C [1, 2, 3, 0, 4] 61 dX12_known_60 rfl (Nat.le_of_ble_eq_true rfl) rfl ?_
      obtain ⟨x12, ex12, hf⟩ := bnd_ex hf
      refine wa_iinc (v := x12) (lv' := [(0, .ref (a 0)), (1, .int l1), (2, .int l2), (3, .int x11), (4, .int x12)]) C 4 [1, 2, 3, 4, 0] 64 dX12_known_61 rfl rfl (by rw [ex12]; rfl) (Nat.le_of_ble_eq_true rfl) rfl ?_
      refine wa_goto C 39 dX12_known_64 rfl ?_
      exact ih x11 x12 q9 hf
set_option maxRecDepth 20000 in
theorem c_X12_known {l : Launch} {D : va_G} {dT : Nat → ClassId} {a : Nat → Nat} {v : MS} {p0 : Int32} {p1 : Int32} {res : Int32 × MS} (hf : f_X12_known v p0 p1 = some res) : CTi l yX12_known cX12_known 5 (some .int) ({ frames := 5, cells := 0, slots := 0, locals := 120 } : Room) D dT [.ref (a 0), .int p0, .int p1] ([wM dT a v]) ([wM dT a res.2]) res.1 := by
  refine CTi.of (by decide) (Nat.le_of_ble_eq_true rfl) rfl ?_
  intro p e s m args below meth c A C
  unfold f_X12_known at hf
  refine wa_aload_n C 0 1 dX12_known_0 rfl rfl ?_
  refine wa_iconst (v := 0) C 2 dX12_known_1 rfl rfl ?_
  obtain ⟨y1, ey1, hf⟩ := bnd_ex hf
  refine wa_put (ws' := [wM dT a y1]) C 5 0 0 0 tyX12 dX12_known_2 rfl iX12 tyX12_ok nmX12 q1449 rfl (Nat.le_of_ble_eq_true rfl) rfl rfl rfl rfl rfl (Nat.le_of_ble_eq_true rfl) (by rw [ey1]; rfl) ?_
  refine wa_aload_n C 0 6 dX12_known_5 rfl rfl ?_
  refine wa_iload_n C 1 7 dX12_known_6 rfl rfl ?_
  obtain ⟨q2, hq2, hf⟩ := bind_ex hf
  refine wa_callVAi (b1 := 0) (q1 := 0) (ci := 12) (As := [.int p0]) C 10 dX12_known_7 rfl kv_X12_368 (c_X12_isPerson hq2) ⟨rfl, rfl⟩ ⟨Nat.le_of_ble_eq_true rfl, Nat.le_of_ble_eq_true rfl⟩ rfl rfl rfl rfl rfl ⟨Nat.zero_le _, Nat.zero_le _⟩ (Nat.le_of_ble_eq_true rfl) ?_
  refine wa_if_eq C 23 13 dX12_known_10 rfl rfl (fun c3 => ?_) (fun c3 => ?_)
  · replace hf := ite_t hf c3
    refine wa_iconst (v := 0) C 24 dX12_known_23 rfl rfl ?_
    cases hf
    exact wa_iret C dX12_known_24 rfl rfl
  · replace hf := ite_f hf c3
    refine wa_aload_n C 0 14 dX12_known_13 rfl rfl ?_
    refine wa_iload_n C 2 15 dX12_known_14 rfl rfl ?_
    refine wa_iconst (v := 0) C 16 dX12_known_15 rfl rfl ?_
    refine wa_iconst (v := 2) C 17 dX12_known_16 rfl rfl ?_
    obtain ⟨q4, hq4, hf⟩ := bind_ex hf
    refine wa_callVAi (b1 := 0) (q1 := 0) (ci := 12) (As := [.int p1, .int (0 : Int32), .int (2 : Int32)]) C 20 dX12_known_17 rfl kv_X12_402 (c_X12_isSoon hq4) ⟨rfl, rfl⟩ ⟨Nat.le_of_ble_eq_true rfl, Nat.le_of_ble_eq_true rfl⟩ rfl rfl rfl rfl rfl ⟨Nat.zero_le _, Nat.zero_le _⟩ (Nat.le_of_ble_eq_true rfl) ?_
    refine wa_if_ne C 25 23 dX12_known_20 rfl rfl (fun c5 => ?_) (fun c5 => ?_)
    · replace hf := ite_f hf c5
      refine wa_aload_n C 0 26 dX12_known_25 rfl rfl ?_
      refine wa_iconst (v := 0) C 27 dX12_known_26 rfl rfl ?_
      refine wa_iload_n C 1 28 dX12_known_27 rfl rfl ?_
      obtain ⟨q6, hq6, hf⟩ := bind_ex hf
      refine wa_callVAi (b1 := 0) (q1 := 0) (ci := 12) (As := [.int (0 : Int32), .int p0]) C 31 dX12_known_28 rfl kv_X12_374 (c_X12_withOne hq6) ⟨rfl, rfl⟩ ⟨Nat.le_of_ble_eq_true rfl, Nat.le_of_ble_eq_true rfl⟩ rfl rfl rfl rfl rfl ⟨Nat.zero_le _, Nat.zero_le _⟩ (Nat.le_of_ble_eq_true rfl) ?_
      refine wa_istore_n (lv' := [(0, .ref (a 0)), (1, .int p0), (2, .int p1), (3, .int q6)]) C [1, 2, 3, 0] 32 dX12_known_31 rfl (Nat.le_of_ble_eq_true rfl) rfl ?_
      refine wa_aload_n C 0 33 dX12_known_32 rfl rfl ?_
      obtain ⟨q7, hq7, hf⟩ := bind_ex hf
      refine wa_callVAv (b1 := 0) (q1 := 0) (ci := 12) (As := []) C 36 dX12_known_33 rfl kv_X12_337 (c_X12_tries hq7) ⟨rfl, rfl⟩ ⟨Nat.le_of_ble_eq_true rfl, Nat.le_of_ble_eq_true rfl⟩ rfl rfl rfl rfl rfl ⟨Nat.zero_le _, Nat.zero_le _⟩ (Nat.le_of_ble_eq_true rfl) ?_
      refine wa_iconst (v := 0) C 37 dX12_known_36 rfl rfl ?_
      refine wa_istore (lv' := [(0, .ref (a 0)), (1, .int p0), (2, .int p1), (3, .int q6), (4, .int (0 : Int32))]) C [1, 2, 3, 4, 0] 39 dX12_known_37 rfl (Nat.le_of_ble_eq_true rfl) rfl ?_
      exact w_X12_known_L39 C FUEL q6 (0 : Int32) q7 hf
    · replace hf := ite_t hf c5
      refine wa_iconst (v := 0) C 24 dX12_known_23 rfl rfl ?_
      cases hf
      exact wa_iret C dX12_known_24 rfl rfl
def f_X12_unknown_L4 (z0 : MS) : Nat → Int32 → Int32 → Option (Int32)
  | 0, _, _ => none
  | n + 1, l1, l2 => (if (z0.1 1) ≤ l2 then some ((l1 / (2 : Int32))) else grd (vi l2 12) ((f_X12_bits (z0.2.2 17 (l2).toNatClampNeg)).bind (fun q3 => bnd (l1 + (((z0.1 1) - (1 : Int32)) - q3)) (fun x4 => bnd (l2 + 1) (fun x5 => f_X12_unknown_L4 z0 n x4 x5)))))
def f_X12_unknown (v : MS) : Option (Int32) := f_X12_unknown_L4 v FUEL (0 : Int32) (0 : Int32)
set_option maxRecDepth 20000 in
theorem w_X12_unknown_L4 {p : Program} {l : Launch} {e : Env} {s : State} {m : MethodId} {args : Array Value} {below : List Frame} {meth : Method} {c : Code} {D : va_G} {A : Nat → Prop} {dT : Nat → ClassId} {a : Nat → Nat} {res : Int32} {z0 : MS} (C : Cx p s m args meth c cX12_unknown 3 RX12 (some .int) D A dT) : ∀ (n : Nat) (l1 : Int32) (l2 : Int32), f_X12_unknown_L4 z0 n l1 l2 = some res → WA p l e ({ frames := 1, cells := 0, slots := 0, locals := 22 } : Room) s m args below meth c (MQ below (QI D dT A ([wM dT a z0]) res) args s 0 0 A) D A 0 0 3 4 ([wM dT a z0]) [(0, .ref (a 0)), (1, .int l1), (2, .int l2)] [] := by
  intro n
  induction n with
  | zero => intro l1 l2 hf; cases hf
  | succ n ih =>
    intro l1 l2 hf
    unfold f_X12_unknown_L4 at hf
    refine wa_iload_n C 2 5 dX12_unknown_4 rfl rfl ?_
    refine wa_aload_n C 0 6 dX12_unknown_5 rfl rfl ?_
    refine wa_get C 9 0 0 1 dX12_unknown_6 rfl iX12 q1450 rfl (Nat.le_of_ble_eq_true rfl) rfl rfl rfl ?_
    refine wa_icmp_ge C 37 12 dX12_unknown_9 rfl rfl (fun c1 => ?_) (fun c1 => ?_)
    · replace hf := ite_t hf c1
      refine wa_iload_n C 1 38 dX12_unknown_37 rfl rfl ?_
      refine wa_iconst (v := 2) C 39 dX12_unknown_38 rfl rfl ?_
      refine wa_idiv C 40 dX12_unknown_39 rfl (by decide) ?_
      cases hf
      exact wa_iret C dX12_unknown_40 rfl rfl
    · replace hf := ite_f hf c1
      refine wa_iload_n C 1 13 dX12_unknown_12 rfl rfl ?_
      refine wa_aload_n C 0 14 dX12_unknown_13 rfl rfl ?_
      refine wa_get C 17 0 0 1 dX12_unknown_14 rfl iX12 q1450 rfl (Nat.le_of_ble_eq_true rfl) rfl rfl rfl ?_
      refine wa_iconst (v := 1) C 18 dX12_unknown_17 rfl rfl ?_
      refine wa_isub C 19 dX12_unknown_18 rfl ?_
      refine wa_aload_n C 0 20 dX12_unknown_19 rfl rfl ?_
      refine wa_get C 23 0 0 45 dX12_unknown_20 rfl iX12 q1494 rfl (Nat.le_of_ble_eq_true rfl) rfl rfl rfl ?_
      refine wa_iload_n C 2 24 dX12_unknown_23 rfl rfl ?_
      obtain ⟨g2, hf⟩ := grd_ex hf
      refine wa_iald C 25 0 17 dX12_unknown_24 rfl rfl rfl (vi_in g2) ?_
      obtain ⟨q3, hq3, hf⟩ := bind_ex hf
      refine wa_callS0i (As := [.int (z0.2.2 17 (l2).toNatClampNeg)]) C 28 dX12_unknown_25 rfl ks_X12_291 (c_X12_bits hq3) ⟨rfl, rfl⟩ ⟨Nat.le_of_ble_eq_true rfl, Nat.le_of_ble_eq_true rfl⟩ rfl rfl ⟨Nat.zero_le _, Nat.zero_le _⟩ (Nat.le_of_ble_eq_true rfl) ?_
      refine wa_isub C 29 dX12_unknown_28 rfl ?_
      refine wa_iadd C 30 dX12_unknown_29 rfl ?_
      obtain ⟨x4, ex4, hf⟩ := bnd_ex hf
      refine wa_topi ex4 ?_
      refine wa_istore_n (lv' := [(0, .ref (a 0)), (1, .int x4), (2, .int l2)]) C [1, 0, 2] 31 dX12_unknown_30 rfl (Nat.le_of_ble_eq_true rfl) rfl ?_
      obtain ⟨x5, ex5, hf⟩ := bnd_ex hf
      refine wa_iinc (v := x5) (lv' := [(0, .ref (a 0)), (1, .int x4), (2, .int x5)]) C 2 [1, 2, 0] 34 dX12_unknown_31 rfl rfl (by rw [ex5]; rfl) (Nat.le_of_ble_eq_true rfl) rfl ?_
      refine wa_goto C 4 dX12_unknown_34 rfl ?_
      exact ih x4 x5 hf
set_option maxRecDepth 20000 in
theorem c_X12_unknown {l : Launch} {D : va_G} {dT : Nat → ClassId} {a : Nat → Nat} {v : MS} {res : Int32} (hf : f_X12_unknown v = some res) : CTi l yX12_unknown cX12_unknown 3 (some .int) ({ frames := 1, cells := 0, slots := 0, locals := 22 } : Room) D dT [.ref (a 0)] ([wM dT a v]) ([wM dT a v]) res := by
  refine CTi.of (by decide) (Nat.le_of_ble_eq_true rfl) rfl ?_
  intro p e s m args below meth c A C
  unfold f_X12_unknown at hf
  refine wa_iconst (v := 0) C 1 dX12_unknown_0 rfl rfl ?_
  refine wa_istore_n (lv' := [(0, .ref (a 0)), (1, .int (0 : Int32))]) C [1, 0] 2 dX12_unknown_1 rfl (Nat.le_of_ble_eq_true rfl) rfl ?_
  refine wa_iconst (v := 0) C 3 dX12_unknown_2 rfl rfl ?_
  refine wa_istore_n (lv' := [(0, .ref (a 0)), (1, .int (0 : Int32)), (2, .int (0 : Int32))]) C [1, 2, 0] 4 dX12_unknown_3 rfl (Nat.le_of_ble_eq_true rfl) rfl ?_
  exact w_X12_unknown_L4 C FUEL (0 : Int32) (0 : Int32) hf
def f_X12_knows_L2 : Nat → Int32 → MS → Option (MS)
  | 0, _, _ => none
  | n + 1, l1, z0 => (if (z0.1 1) ≤ l1 then some (z0) else grd (vi l1 12) ((f_X12_withOne z0 (86 : Int32) l1).bind (fun q3 => grd (vi l1 12) (bnd (z0.1, z0.2.1, uA z0.2.2 17 (l1).toNatClampNeg ((z0.2.2 17 (l1).toNatClampNeg) ||| q3)) (fun y5 => bnd (l1 + 1) (fun x6 => f_X12_knows_L2 n x6 y5))))))
def f_X12_knows (v : MS) : Option (MS) := f_X12_knows_L2 FUEL (0 : Int32) v
set_option maxRecDepth 20000 in
theorem w_X12_knows_L2 {p : Program} {l : Launch} {e : Env} {s : State} {m : MethodId} {args : Array Value} {below : List Frame} {meth : Method} {c : Code} {D : va_G} {A : Nat → Prop} {dT : Nat → ClassId} {a : Nat → Nat} {res : MS} (C : Cx p s m args meth c cX12_knows 2 RX12 none D A dT) : ∀ (n : Nat) (l1 : Int32) (z0 : MS), f_X12_knows_L2 n l1 z0 = some res → WA p l e ({ frames := 2, cells := 0, slots := 0, locals := 46 } : Room) s m args below meth c (MQ below (QV D dT A ([wM dT a res])) args s 0 0 A) D A 0 0 2 2 ([wM dT a z0]) [(0, .ref (a 0)), (1, .int l1)] [] := by
  intro n
  induction n with
  | zero => intro l1 z0 hf; cases hf
  | succ n ih =>
    intro l1 z0 hf
    unfold f_X12_knows_L2 at hf
    refine wa_iload_n C 1 3 dX12_knows_2 rfl rfl ?_
    refine wa_aload_n C 0 4 dX12_knows_3 rfl rfl ?_
    refine wa_get C 7 0 0 1 dX12_knows_4 rfl iX12 q1450 rfl (Nat.le_of_ble_eq_true rfl) rfl rfl rfl ?_
    refine wa_icmp_ge C 32 10 dX12_knows_7 rfl rfl (fun c1 => ?_) (fun c1 => ?_)
    · replace hf := ite_t hf c1
      cases hf
      exact wa_vret C dX12_knows_32 rfl
    · replace hf := ite_f hf c1
      refine wa_aload_n C 0 11 dX12_knows_10 rfl rfl ?_
      refine wa_get C 14 0 0 45 dX12_knows_11 rfl iX12 q1494 rfl (Nat.le_of_ble_eq_true rfl) rfl rfl rfl ?_
      refine wa_iload_n C 1 15 dX12_knows_14 rfl rfl ?_
      refine wa_dup2 C 16 dX12_knows_15 rfl rfl rfl ?_
      obtain ⟨g2, hf⟩ := grd_ex hf
      refine wa_iald C 17 0 17 dX12_knows_16 rfl rfl rfl (vi_in g2) ?_
      refine wa_aload_n C 0 18 dX12_knows_17 rfl rfl ?_
      refine wa_bipush (v := 86) C 20 dX12_knows_18 rfl rfl ?_
      refine wa_iload_n C 1 21 dX12_knows_20 rfl rfl ?_
      obtain ⟨q3, hq3, hf⟩ := bind_ex hf
      refine wa_callVAi (b1 := 0) (q1 := 0) (ci := 12) (As := [.int (86 : Int32), .int l1]) C 24 dX12_knows_21 rfl kv_X12_374 (c_X12_withOne hq3) ⟨rfl, rfl⟩ ⟨Nat.le_of_ble_eq_true rfl, Nat.le_of_ble_eq_true rfl⟩ rfl rfl rfl rfl rfl ⟨Nat.zero_le _, Nat.zero_le _⟩ (Nat.le_of_ble_eq_true rfl) ?_
      refine wa_ior C 25 dX12_knows_24 rfl ?_
      obtain ⟨g4, hf⟩ := grd_ex hf
      obtain ⟨y5, ey5, hf⟩ := bnd_ex hf
      refine wa_iast (ws' := [wM dT a y5]) C 26 0 17 dX12_knows_25 rfl rfl rfl (vi_in g4) (by rw [ey5]; rfl) ?_
      obtain ⟨x6, ex6, hf⟩ := bnd_ex hf
      refine wa_iinc (v := x6) (lv' := [(0, .ref (a 0)), (1, .int x6)]) C 1 [1, 0] 29 dX12_knows_26 rfl rfl (by rw [ex6]; rfl) (Nat.le_of_ble_eq_true rfl) rfl ?_
      refine wa_goto C 2 dX12_knows_29 rfl ?_
      exact ih x6 y5 hf
set_option maxRecDepth 20000 in
theorem c_X12_knows {l : Launch} {D : va_G} {dT : Nat → ClassId} {a : Nat → Nat} {v : MS} {res : MS} (hf : f_X12_knows v = some res) : CTv l yX12_knows cX12_knows 2 none ({ frames := 2, cells := 0, slots := 0, locals := 46 } : Room) D dT [.ref (a 0)] ([wM dT a v]) ([wM dT a res]) := by
  refine CTv.of (by decide) (Nat.le_of_ble_eq_true rfl) rfl ?_
  intro p e s m args below meth c A C
  unfold f_X12_knows at hf
  refine wa_iconst (v := 0) C 1 dX12_knows_0 rfl rfl ?_
  refine wa_istore_n (lv' := [(0, .ref (a 0)), (1, .int (0 : Int32))]) C [1, 0] 2 dX12_knows_1 rfl (Nat.le_of_ble_eq_true rfl) rfl ?_
  exact w_X12_knows_L2 C FUEL (0 : Int32) v hf
