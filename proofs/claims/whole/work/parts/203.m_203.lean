def f_X12_works (p0 : Int32) (p1 : Int32) (p2 : Int32) : Option (Int32) := (if p0 = 4 then (if p1 = 0 then some ((0 : Int32)) else (if p2 = 0 then some ((0 : Int32)) else some ((1 : Int32)))) else (if p0 = 5 then (if p1 = 0 then (if p2 = 0 then some ((0 : Int32)) else some ((1 : Int32))) else some ((1 : Int32))) else (if p0 = 6 then (if p2 ≤ p1 then some ((0 : Int32)) else some ((1 : Int32))) else (if p0 = 7 then (if p1 = p2 then some ((1 : Int32)) else some ((0 : Int32))) else (if p0 = 8 then some ((p1 + p2)) else (if p0 = 9 then some ((p1 - p2)) else (if p0 = 10 then some ((p1 * p2)) else (if p2 = 0 then some ((0 : Int32)) else grd (decide (¬ p2 = 0)) (some ((p1 / p2)))))))))))
set_option maxRecDepth 20000 in
theorem c_X12_works {l : Launch} {D : va_G} {dT : Nat → ClassId} {p0 : Int32} {p1 : Int32} {p2 : Int32} {res : Int32} (hf : f_X12_works p0 p1 p2 = some res) : CTi l yX12_works cX12_works 3 (some .int) ({ frames := 0, cells := 0, slots := 0, locals := 0 } : Room) D dT [.int p0, .int p1, .int p2] ([]) ([]) res := by
  refine CTi.of (by decide) (Nat.le_of_ble_eq_true rfl) rfl ?_
  intro p e s m args below meth c A C
  unfold f_X12_works at hf
  refine wa_iload_n C 0 1 dX12_works_0 rfl rfl ?_
  by_cases c1 : p0 = 4
  · replace hf := ite_t hf c1
    refine wa_ts C 4 (43) 44 dX12_works_1 c1 (by decide) (by decide) rfl rfl ?_
    refine wa_iload_n C 1 45 dX12_works_44 rfl rfl ?_
    refine wa_if_eq C 56 48 dX12_works_45 rfl rfl (fun c2 => ?_) (fun c2 => ?_)
    · replace hf := ite_t hf c2
      refine wa_iconst (v := 0) C 57 dX12_works_56 rfl rfl ?_
      cases hf
      exact wa_iret C dX12_works_57 rfl rfl
    · replace hf := ite_f hf c2
      refine wa_iload_n C 2 49 dX12_works_48 rfl rfl ?_
      refine wa_if_eq C 56 52 dX12_works_49 rfl rfl (fun c3 => ?_) (fun c3 => ?_)
      · replace hf := ite_t hf c3
        refine wa_iconst (v := 0) C 57 dX12_works_56 rfl rfl ?_
        cases hf
        exact wa_iret C dX12_works_57 rfl rfl
      · replace hf := ite_f hf c3
        refine wa_iconst (v := 1) C 53 dX12_works_52 rfl rfl ?_
        refine wa_goto C 57 dX12_works_53 rfl ?_
        cases hf
        exact wa_iret C dX12_works_57 rfl rfl
  · replace hf := ite_f hf c1
    by_cases c4 : p0 = 5
    · replace hf := ite_t hf c4
      refine wa_ts C 5 (57) 58 dX12_works_1 c4 (by decide) (by decide) rfl rfl ?_
      refine wa_iload_n C 1 59 dX12_works_58 rfl rfl ?_
      refine wa_if_ne C 66 62 dX12_works_59 rfl rfl (fun c5 => ?_) (fun c5 => ?_)
      · replace hf := ite_f hf c5
        refine wa_iconst (v := 1) C 67 dX12_works_66 rfl rfl ?_
        refine wa_goto C 71 dX12_works_67 rfl ?_
        cases hf
        exact wa_iret C dX12_works_71 rfl rfl
      · replace hf := ite_t hf c5
        refine wa_iload_n C 2 63 dX12_works_62 rfl rfl ?_
        refine wa_if_eq C 70 66 dX12_works_63 rfl rfl (fun c6 => ?_) (fun c6 => ?_)
        · replace hf := ite_t hf c6
          refine wa_iconst (v := 0) C 71 dX12_works_70 rfl rfl ?_
          cases hf
          exact wa_iret C dX12_works_71 rfl rfl
        · replace hf := ite_f hf c6
          refine wa_iconst (v := 1) C 67 dX12_works_66 rfl rfl ?_
          refine wa_goto C 71 dX12_works_67 rfl ?_
          cases hf
          exact wa_iret C dX12_works_71 rfl rfl
    · replace hf := ite_f hf c4
      by_cases c7 : p0 = 6
      · replace hf := ite_t hf c7
        refine wa_ts C 6 (71) 72 dX12_works_1 c7 (by decide) (by decide) rfl rfl ?_
        refine wa_iload_n C 1 73 dX12_works_72 rfl rfl ?_
        refine wa_iload_n C 2 74 dX12_works_73 rfl rfl ?_
        refine wa_icmp_ge C 81 77 dX12_works_74 rfl rfl (fun c8 => ?_) (fun c8 => ?_)
        · replace hf := ite_t hf c8
          refine wa_iconst (v := 0) C 82 dX12_works_81 rfl rfl ?_
          cases hf
          exact wa_iret C dX12_works_82 rfl rfl
        · replace hf := ite_f hf c8
          refine wa_iconst (v := 1) C 78 dX12_works_77 rfl rfl ?_
          refine wa_goto C 82 dX12_works_78 rfl ?_
          cases hf
          exact wa_iret C dX12_works_82 rfl rfl
      · replace hf := ite_f hf c7
        by_cases c9 : p0 = 7
        · replace hf := ite_t hf c9
          refine wa_ts C 7 (82) 83 dX12_works_1 c9 (by decide) (by decide) rfl rfl ?_
          refine wa_iload_n C 1 84 dX12_works_83 rfl rfl ?_
          refine wa_iload_n C 2 85 dX12_works_84 rfl rfl ?_
          refine wa_icmp_ne C 92 88 dX12_works_85 rfl rfl (fun c10 => ?_) (fun c10 => ?_)
          · replace hf := ite_f hf c10
            refine wa_iconst (v := 0) C 93 dX12_works_92 rfl rfl ?_
            cases hf
            exact wa_iret C dX12_works_93 rfl rfl
          · replace hf := ite_t hf c10
            refine wa_iconst (v := 1) C 89 dX12_works_88 rfl rfl ?_
            refine wa_goto C 93 dX12_works_89 rfl ?_
            cases hf
            exact wa_iret C dX12_works_93 rfl rfl
        · replace hf := ite_f hf c9
          by_cases c11 : p0 = 8
          · replace hf := ite_t hf c11
            refine wa_ts C 8 (93) 94 dX12_works_1 c11 (by decide) (by decide) rfl rfl ?_
            refine wa_iload_n C 1 95 dX12_works_94 rfl rfl ?_
            refine wa_iload_n C 2 96 dX12_works_95 rfl rfl ?_
            refine wa_iadd C 97 dX12_works_96 rfl ?_
            cases hf
            exact wa_iret C dX12_works_97 rfl rfl
          · replace hf := ite_f hf c11
            by_cases c12 : p0 = 9
            · replace hf := ite_t hf c12
              refine wa_ts C 9 (97) 98 dX12_works_1 c12 (by decide) (by decide) rfl rfl ?_
              refine wa_iload_n C 1 99 dX12_works_98 rfl rfl ?_
              refine wa_iload_n C 2 100 dX12_works_99 rfl rfl ?_
              refine wa_isub C 101 dX12_works_100 rfl ?_
              cases hf
              exact wa_iret C dX12_works_101 rfl rfl
            · replace hf := ite_f hf c12
              by_cases c13 : p0 = 10
              · replace hf := ite_t hf c13
                refine wa_ts C 10 (101) 102 dX12_works_1 c13 (by decide) (by decide) rfl rfl ?_
                refine wa_iload_n C 1 103 dX12_works_102 rfl rfl ?_
                refine wa_iload_n C 2 104 dX12_works_103 rfl rfl ?_
                refine wa_imul C 105 dX12_works_104 rfl ?_
                cases hf
                exact wa_iret C dX12_works_105 rfl rfl
              · replace hf := ite_f hf c13
                refine wa_tsd C 106 dX12_works_1 (ts_out (4) 7 (nts_s (nts_s (nts_s (nts_s (nts_s (nts_s (nts_s nts_0 rfl c1) rfl c4) rfl c7) rfl c9) rfl c11) rfl c12) rfl c13)) rfl ?_
                refine wa_iload_n C 2 107 dX12_works_106 rfl rfl ?_
                refine wa_if_ne C 114 110 dX12_works_107 rfl rfl (fun c14 => ?_) (fun c14 => ?_)
                · replace hf := ite_f hf c14
                  refine wa_iload_n C 1 115 dX12_works_114 rfl rfl ?_
                  refine wa_iload_n C 2 116 dX12_works_115 rfl rfl ?_
                  obtain ⟨g15, hf⟩ := grd_ex hf
                  refine wa_idiv C 117 dX12_works_116 rfl (of_decide_eq_true g15) ?_
                  cases hf
                  exact wa_iret C dX12_works_117 rfl rfl
                · replace hf := ite_t hf c14
                  refine wa_iconst (v := 0) C 111 dX12_works_110 rfl rfl ?_
                  refine wa_goto C 117 dX12_works_111 rfl ?_
                  cases hf
                  exact wa_iret C dX12_works_117 rfl rfl
theorem ks_X12_284 : KS RX12 284 yX12_works cX12_works 3 (some .int) 3 := KS.mk q1853 q1854 q13 q1855 ⟨by decide, by decide, by decide +kernel⟩
def f_X12_reckons_J36 (k4 : Int32 → Int32 → MS → Option (Int32 × MS)) (l2 : Int32) (l3 : Int32) (l4 : Int32) (z0 : MS) : Option (Int32 × MS) := (if l4 = (1 : Int32) then grd (vi l3 1400) (grd (vi l2 950) (bnd (z0.1, z0.2.1, uA z0.2.2 13 (l2).toNatClampNeg (z0.2.2 2 (l3).toNatClampNeg)) (fun y17 => bnd (l3 + 1) (fun x18 => bnd (l2 + 1) (fun x19 => k4 x19 x18 y17))))) else grd (vi l3 1400) (grd (vi (z0.2.2 2 (l3).toNatClampNeg) 9) (grd (vi l2 950) (bnd (z0.1, z0.2.1, uA z0.2.2 13 (l2).toNatClampNeg (z0.2.2 12 ((z0.2.2 2 (l3).toNatClampNeg)).toNatClampNeg)) (fun y12 => bnd (l3 + 1) (fun x13 => bnd (l2 + 1) (fun x14 => k4 x14 x13 y12)))))))
def f_X12_reckons_L4 : Nat → Int32 → Int32 → MS → Option (Int32 × MS)
  | 0, _, _, _ => none
  | n + 1, l2, l3, z0 => grd (vi l3 1400) ((if (z0.2.2 2 (l3).toNatClampNeg) = 0 then grd (vi (0 : Int32) 950) (some ((z0.2.2 13 ((0 : Int32)).toNatClampNeg), z0)) else grd (vi l3 1400) (bnd (z0.2.2 2 (l3).toNatClampNeg) (fun x5 => bnd (l3 + 1) (fun x6 => (if x5 = (1 : Int32) then f_X12_reckons_J36 (f_X12_reckons_L4 n) l2 x6 x5 z0 else (if x5 = (2 : Int32) then f_X12_reckons_J36 (f_X12_reckons_L4 n) l2 x6 x5 z0 else (if x5 = (3 : Int32) then grd (vi (l2 - (1 : Int32)) 950) ((if (z0.2.2 13 ((l2 - (1 : Int32))).toNatClampNeg) = 0 then grd (vi (l2 - (1 : Int32)) 950) (bnd (z0.1, z0.2.1, uA z0.2.2 13 ((l2 - (1 : Int32))).toNatClampNeg (1 : Int32)) (fun y33 => f_X12_reckons_L4 n l2 x6 y33)) else grd (vi (l2 - (1 : Int32)) 950) (bnd (z0.1, z0.2.1, uA z0.2.2 13 ((l2 - (1 : Int32))).toNatClampNeg (0 : Int32)) (fun y31 => f_X12_reckons_L4 n l2 x6 y31)))) else bnd (l2 + (-1)) (fun x22 => grd (vi (x22 - (1 : Int32)) 950) (grd (vi x22 950) ((f_X12_works x5 (z0.2.2 13 ((x22 - (1 : Int32))).toNatClampNeg) (z0.2.2 13 (x22).toNatClampNeg)).bind (fun q25 => grd (vi (x22 - (1 : Int32)) 950) (bnd (z0.1, z0.2.1, uA z0.2.2 13 ((x22 - (1 : Int32))).toNatClampNeg q25) (fun y27 => f_X12_reckons_L4 n x22 x6 y27))))))))))))))
def f_X12_reckons (v : MS) (p0 : Int32) : Option (Int32 × MS) := f_X12_reckons_L4 FUEL (0 : Int32) p0 v
set_option maxRecDepth 20000 in
theorem w_X12_reckons_J36 {p : Program} {l : Launch} {e : Env} {s : State} {m : MethodId} {args : Array Value} {below : List Frame} {meth : Method} {c : Code} {D : va_G} {A : Nat → Prop} {dT : Nat → ClassId} {a : Nat → Nat} {res : Int32 × MS} (C : Cx p s m args meth c cX12_reckons 5 RX12 (some .int) D A dT) {k4 : Int32 → Int32 → MS → Option (Int32 × MS)} (hk4 : ∀ (l2 : Int32) (l3 : Int32) (z0 : MS), k4 l2 l3 z0 = some res → WA p l e ({ frames := 1, cells := 0, slots := 0, locals := 22 } : Room) s m args below meth c (MQ below (QI D dT A ([wM dT a res.2]) res.1) args s 0 0 A) D A 0 0 5 4 ([wM dT a z0]) [(0, .ref (a 0)), (2, .int l2), (3, .int l3)] []) : ∀ (l2 : Int32) (l3 : Int32) (l4 : Int32) (z0 : MS), f_X12_reckons_J36 k4 l2 l3 l4 z0 = some res → WA p l e ({ frames := 1, cells := 0, slots := 0, locals := 22 } : Room) s m args below meth c (MQ below (QI D dT A ([wM dT a res.2]) res.1) args s 0 0 A) D A 0 0 5 36 ([wM dT a z0]) [(0, .ref (a 0)), (2, .int l2), (3, .int l3), (4, .int l4)] [] := by
  intro l2 l3 l4 z0 hf
  unfold f_X12_reckons_J36 at hf
  refine wa_aload_n C 0 37 dX12_reckons_36 rfl rfl ?_
  refine wa_get C 40 0 0 38 dX12_reckons_37 rfl iX12 q1487 rfl (Nat.le_of_ble_eq_true rfl) rfl rfl rfl ?_
  refine wa_iload_n C 1 41 dX12_reckons_40 rfl rfl ?_
  refine wa_iload C 3 43 dX12_reckons_41 rfl rfl ?_
  refine wa_iconst (v := 1) C 44 dX12_reckons_43 rfl rfl ?_
  refine wa_icmp_ne C 56 47 dX12_reckons_44 rfl rfl (fun c8 => ?_) (fun c8 => ?_)
  · replace hf := ite_f hf c8
    refine wa_aload_n C 0 57 dX12_reckons_56 rfl rfl ?_
    refine wa_get C 60 0 0 37 dX12_reckons_57 rfl iX12 q1486 rfl (Nat.le_of_ble_eq_true rfl) rfl rfl rfl ?_
    refine wa_aload_n C 0 61 dX12_reckons_60 rfl rfl ?_
    refine wa_get C 64 0 0 6 dX12_reckons_61 rfl iX12 q1455 rfl (Nat.le_of_ble_eq_true rfl) rfl rfl rfl ?_
    refine wa_iload_n C 2 65 dX12_reckons_64 rfl rfl ?_
    obtain ⟨g9, hf⟩ := grd_ex hf
    refine wa_iald C 66 0 2 dX12_reckons_65 rfl rfl rfl (vi_in g9) ?_
    obtain ⟨g10, hf⟩ := grd_ex hf
    refine wa_iald C 67 0 12 dX12_reckons_66 rfl rfl rfl (vi_in g10) ?_
    obtain ⟨g11, hf⟩ := grd_ex hf
    obtain ⟨y12, ey12, hf⟩ := bnd_ex hf
    refine wa_iast (ws' := [wM dT a y12]) C 68 0 13 dX12_reckons_67 rfl rfl rfl (vi_in g11) (by rw [ey12]; rfl) ?_
    obtain ⟨x13, ex13, hf⟩ := bnd_ex hf
    refine wa_iinc (v := x13) (lv' := [(0, .ref (a 0)), (2, .int l2), (3, .int x13), (4, .int l4)]) C 2 [1, 2, 0, 3] 71 dX12_reckons_68 rfl rfl (by rw [ex13]; rfl) (Nat.le_of_ble_eq_true rfl) rfl ?_
    obtain ⟨x14, ex14, hf⟩ := bnd_ex hf
    refine wa_iinc (v := x14) (lv' := [(0, .ref (a 0)), (2, .int x14), (3, .int x13), (4, .int l4)]) C 1 [1, 0, 2, 3] 74 dX12_reckons_71 rfl rfl (by rw [ex14]; rfl) (Nat.le_of_ble_eq_true rfl) rfl ?_
    refine wa_goto C 140 dX12_reckons_74 rfl ?_
    refine wa_goto C 4 dX12_reckons_140 rfl ?_
    refine wa_lv (lv' := [(0, .ref (a 0)), (2, .int x14), (3, .int x13)]) [0, 1, 2] rfl ?_
    exact hk4 x14 x13 y12 hf
  · replace hf := ite_t hf c8
    refine wa_aload_n C 0 48 dX12_reckons_47 rfl rfl ?_
    refine wa_get C 51 0 0 6 dX12_reckons_48 rfl iX12 q1455 rfl (Nat.le_of_ble_eq_true rfl) rfl rfl rfl ?_
    refine wa_iload_n C 2 52 dX12_reckons_51 rfl rfl ?_
    obtain ⟨g15, hf⟩ := grd_ex hf
    refine wa_iald C 53 0 2 dX12_reckons_52 rfl rfl rfl (vi_in g15) ?_
    refine wa_goto C 67 dX12_reckons_53 rfl ?_
    obtain ⟨g16, hf⟩ := grd_ex hf
    obtain ⟨y17, ey17, hf⟩ := bnd_ex hf
    refine wa_iast (ws' := [wM dT a y17]) C 68 0 13 dX12_reckons_67 rfl rfl rfl (vi_in g16) (by rw [ey17]; rfl) ?_
    obtain ⟨x18, ex18, hf⟩ := bnd_ex hf
    refine wa_iinc (v := x18) (lv' := [(0, .ref (a 0)), (2, .int l2), (3, .int x18), (4, .int l4)]) C 2 [1, 2, 0, 3] 71 dX12_reckons_68 rfl rfl (by rw [ex18]; rfl) (Nat.le_of_ble_eq_true rfl) rfl ?_
    obtain ⟨x19, ex19, hf⟩ := bnd_ex hf
    refine wa_iinc (v := x19) (lv' := [(0, .ref (a 0)), (2, .int x19), (3, .int x18), (4, .int l4)]) C 1 [1, 0, 2, 3] 74 dX12_reckons_71 rfl rfl (by rw [ex19]; rfl) (Nat.le_of_ble_eq_true rfl) rfl ?_
    refine wa_goto C 140 dX12_reckons_74 rfl ?_
    refine wa_goto C 4 dX12_reckons_140 rfl ?_
    refine wa_lv (lv' := [(0, .ref (a 0)), (2, .int x19), (3, .int x18)]) [0, 1, 2] rfl ?_
    exact hk4 x19 x18 y17 hf
set_option maxRecDepth 20000 in
theorem w_X12_reckons_L4 {p : Program} {l : Launch} {e : Env} {s : State} {m : MethodId} {args : Array Value} {below : List Frame} {meth : Method} {c : Code} {D : va_G} {A : Nat → Prop} {dT : Nat → ClassId} {a : Nat → Nat} {res : Int32 × MS} (C : Cx p s m args meth c cX12_reckons 5 RX12 (some .int) D A dT) : ∀ (n : Nat) (l2 : Int32) (l3 : Int32) (z0 : MS), f_X12_reckons_L4 n l2 l3 z0 = some res → WA p l e ({ frames := 1, cells := 0, slots := 0, locals := 22 } : Room) s m args below meth c (MQ below (QI D dT A ([wM dT a res.2]) res.1) args s 0 0 A) D A 0 0 5 4 ([wM dT a z0]) [(0, .ref (a 0)), (2, .int l2), (3, .int l3)] [] := by
  intro n
  induction n with
  | zero => intro l2 l3 z0 hf; cases hf
  | succ n ih =>
    intro l2 l3 z0 hf
    unfold f_X12_reckons_L4 at hf
    refine wa_aload_n C 0 5 dX12_reckons_4 rfl rfl ?_
    refine wa_get C 8 0 0 6 dX12_reckons_5 rfl iX12 q1455 rfl (Nat.le_of_ble_eq_true rfl) rfl rfl rfl ?_
    refine wa_iload_n C 2 9 dX12_reckons_8 rfl rfl ?_
    obtain ⟨g1, hf⟩ := grd_ex hf
    refine wa_iald C 10 0 2 dX12_reckons_9 rfl rfl rfl (vi_in g1) ?_
    refine wa_if_eq C 143 13 dX12_reckons_10 rfl rfl (fun c2 => ?_) (fun c2 => ?_)
    · replace hf := ite_t hf c2
      refine wa_aload_n C 0 144 dX12_reckons_143 rfl rfl ?_
      refine wa_get C 147 0 0 38 dX12_reckons_144 rfl iX12 q1487 rfl (Nat.le_of_ble_eq_true rfl) rfl rfl rfl ?_
      refine wa_iconst (v := 0) C 148 dX12_reckons_147 rfl rfl ?_
      obtain ⟨g3, hf⟩ := grd_ex hf
      refine wa_iald C 149 0 13 dX12_reckons_148 rfl rfl rfl (vi_in g3) ?_
      cases hf
      exact wa_iret C dX12_reckons_149 rfl rfl
    · replace hf := ite_f hf c2
      refine wa_aload_n C 0 14 dX12_reckons_13 rfl rfl ?_
      refine wa_get C 17 0 0 6 dX12_reckons_14 rfl iX12 q1455 rfl (Nat.le_of_ble_eq_true rfl) rfl rfl rfl ?_
      refine wa_iload_n C 2 18 dX12_reckons_17 rfl rfl ?_
      obtain ⟨g4, hf⟩ := grd_ex hf
      refine wa_iald C 19 0 2 dX12_reckons_18 rfl rfl rfl (vi_in g4) ?_
      obtain ⟨x5, ex5, hf⟩ := bnd_ex hf
      refine wa_topi ex5 ?_
      refine wa_istore (lv' := [(0, .ref (a 0)), (2, .int l2), (3, .int l3), (4, .int x5)]) C [1, 2, 3, 0] 21 dX12_reckons_19 rfl (Nat.le_of_ble_eq_true rfl) rfl ?_
      obtain ⟨x6, ex6, hf⟩ := bnd_ex hf
      refine wa_iinc (v := x6) (lv' := [(0, .ref (a 0)), (2, .int l2), (3, .int x6), (4, .int x5)]) C 2 [1, 2, 0, 3] 24 dX12_reckons_21 rfl rfl (by rw [ex6]; rfl) (Nat.le_of_ble_eq_true rfl) rfl ?_
      refine wa_iload C 3 26 dX12_reckons_24 rfl rfl ?_
      refine wa_iconst (v := 1) C 27 dX12_reckons_26 rfl rfl ?_
      refine wa_icmp_eq C 36 30 dX12_reckons_27 rfl rfl (fun c7 => ?_) (fun c7 => ?_)
      · replace hf := ite_t hf c7
        exact w_X12_reckons_J36 C ih l2 x6 x5 z0 hf
      · replace hf := ite_f hf c7
        refine wa_iload C 3 32 dX12_reckons_30 rfl rfl ?_
        refine wa_iconst (v := 2) C 33 dX12_reckons_32 rfl rfl ?_
        refine wa_icmp_ne C 77 36 dX12_reckons_33 rfl rfl (fun c20 => ?_) (fun c20 => ?_)
        · replace hf := ite_f hf c20
          refine wa_iload C 3 79 dX12_reckons_77 rfl rfl ?_
          refine wa_iconst (v := 3) C 80 dX12_reckons_79 rfl rfl ?_
          refine wa_icmp_ne C 110 83 dX12_reckons_80 rfl rfl (fun c21 => ?_) (fun c21 => ?_)
          · replace hf := ite_f hf c21
            obtain ⟨x22, ex22, hf⟩ := bnd_ex hf
            refine wa_iinc (v := x22) (lv' := [(0, .ref (a 0)), (2, .int x22), (3, .int x6), (4, .int x5)]) C 1 [1, 0, 2, 3] 113 dX12_reckons_110 rfl rfl (by rw [ex22]; rfl) (Nat.le_of_ble_eq_true rfl) rfl ?_
            refine wa_aload_n C 0 114 dX12_reckons_113 rfl rfl ?_
            refine wa_get C 117 0 0 38 dX12_reckons_114 rfl iX12 q1487 rfl (Nat.le_of_ble_eq_true rfl) rfl rfl rfl ?_
            refine wa_iload_n C 1 118 dX12_reckons_117 rfl rfl ?_
            refine wa_iconst (v := 1) C 119 dX12_reckons_118 rfl rfl ?_
            refine wa_isub C 120 dX12_reckons_119 rfl ?_
            refine wa_iload C 3 122 dX12_reckons_120 rfl rfl ?_
            refine wa_aload_n C 0 123 dX12_reckons_122 rfl rfl ?_
            refine wa_get C 126 0 0 38 dX12_reckons_123 rfl iX12 q1487 rfl (Nat.le_of_ble_eq_true rfl) rfl rfl rfl ?_
            refine wa_iload_n C 1 127 dX12_reckons_126 rfl rfl ?_
            refine wa_iconst (v := 1) C 128 dX12_reckons_127 rfl rfl ?_
            refine wa_isub C 129 dX12_reckons_128 rfl ?_
            obtain ⟨g23, hf⟩ := grd_ex hf
            refine wa_iald C 130 0 13 dX12_reckons_129 rfl rfl rfl (vi_in g23) ?_
            refine wa_aload_n C 0 131 dX12_reckons_130 rfl rfl ?_
            refine wa_get C 134 0 0 38 dX12_reckons_131 rfl iX12 q1487 rfl (Nat.le_of_ble_eq_true rfl) rfl rfl rfl ?_
            refine wa_iload_n C 1 135 dX12_reckons_134 rfl rfl ?_
            obtain ⟨g24, hf⟩ := grd_ex hf
            refine wa_iald C 136 0 13 dX12_reckons_135 rfl rfl rfl (vi_in g24) ?_
            obtain ⟨q25, hq25, hf⟩ := bind_ex hf
            refine wa_callS0i (As := [.int x5, .int (z0.2.2 13 ((x22 - (1 : Int32))).toNatClampNeg), .int (z0.2.2 13 (x22).toNatClampNeg)]) C 139 dX12_reckons_136 rfl ks_X12_284 (c_X12_works hq25) ⟨rfl, rfl⟩ ⟨Nat.le_of_ble_eq_true rfl, Nat.le_of_ble_eq_true rfl⟩ rfl rfl ⟨Nat.zero_le _, Nat.zero_le _⟩ (Nat.le_of_ble_eq_true rfl) ?_
            obtain ⟨g26, hf⟩ := grd_ex hf
            obtain ⟨y27, ey27, hf⟩ := bnd_ex hf
            refine wa_iast (ws' := [wM dT a y27]) C 140 0 13 dX12_reckons_139 rfl rfl rfl (vi_in g26) (by rw [ey27]; rfl) ?_
            refine wa_goto C 4 dX12_reckons_140 rfl ?_
            refine wa_lv (lv' := [(0, .ref (a 0)), (2, .int x22), (3, .int x6)]) [0, 1, 2] rfl ?_
            exact ih x22 x6 y27 hf
          · replace hf := ite_t hf c21
            refine wa_aload_n C 0 84 dX12_reckons_83 rfl rfl ?_
            refine wa_get C 87 0 0 38 dX12_reckons_84 rfl iX12 q1487 rfl (Nat.le_of_ble_eq_true rfl) rfl rfl rfl ?_
            refine wa_iload_n C 1 88 dX12_reckons_87 rfl rfl ?_
            refine wa_iconst (v := 1) C 89 dX12_reckons_88 rfl rfl ?_
            refine wa_isub C 90 dX12_reckons_89 rfl ?_
            refine wa_aload_n C 0 91 dX12_reckons_90 rfl rfl ?_
            refine wa_get C 94 0 0 38 dX12_reckons_91 rfl iX12 q1487 rfl (Nat.le_of_ble_eq_true rfl) rfl rfl rfl ?_
            refine wa_iload_n C 1 95 dX12_reckons_94 rfl rfl ?_
            refine wa_iconst (v := 1) C 96 dX12_reckons_95 rfl rfl ?_
            refine wa_isub C 97 dX12_reckons_96 rfl ?_
            obtain ⟨g28, hf⟩ := grd_ex hf
            refine wa_iald C 98 0 13 dX12_reckons_97 rfl rfl rfl (vi_in g28) ?_
            refine wa_if_ne C 105 101 dX12_reckons_98 rfl rfl (fun c29 => ?_) (fun c29 => ?_)
            · replace hf := ite_f hf c29
              refine wa_iconst (v := 0) C 106 dX12_reckons_105 rfl rfl ?_
              obtain ⟨g30, hf⟩ := grd_ex hf
              obtain ⟨y31, ey31, hf⟩ := bnd_ex hf
              refine wa_iast (ws' := [wM dT a y31]) C 107 0 13 dX12_reckons_106 rfl rfl rfl (vi_in g30) (by rw [ey31]; rfl) ?_
              refine wa_goto C 140 dX12_reckons_107 rfl ?_
              refine wa_goto C 4 dX12_reckons_140 rfl ?_
              refine wa_lv (lv' := [(0, .ref (a 0)), (2, .int l2), (3, .int x6)]) [0, 1, 2] rfl ?_
              exact ih l2 x6 y31 hf
            · replace hf := ite_t hf c29
              refine wa_iconst (v := 1) C 102 dX12_reckons_101 rfl rfl ?_
              refine wa_goto C 106 dX12_reckons_102 rfl ?_
              obtain ⟨g32, hf⟩ := grd_ex hf
              obtain ⟨y33, ey33, hf⟩ := bnd_ex hf
              refine wa_iast (ws' := [wM dT a y33]) C 107 0 13 dX12_reckons_106 rfl rfl rfl (vi_in g32) (by rw [ey33]; rfl) ?_
              refine wa_goto C 140 dX12_reckons_107 rfl ?_
              refine wa_goto C 4 dX12_reckons_140 rfl ?_
              refine wa_lv (lv' := [(0, .ref (a 0)), (2, .int l2), (3, .int x6)]) [0, 1, 2] rfl ?_
              exact ih l2 x6 y33 hf
        · replace hf := ite_t hf c20
          exact w_X12_reckons_J36 C ih l2 x6 x5 z0 hf
set_option maxRecDepth 20000 in
theorem c_X12_reckons {l : Launch} {D : va_G} {dT : Nat → ClassId} {a : Nat → Nat} {v : MS} {p0 : Int32} {res : Int32 × MS} (hf : f_X12_reckons v p0 = some res) : CTi l yX12_reckons cX12_reckons 5 (some .int) ({ frames := 1, cells := 0, slots := 0, locals := 22 } : Room) D dT [.ref (a 0), .int p0] ([wM dT a v]) ([wM dT a res.2]) res.1 := by
  refine CTi.of (by decide) (Nat.le_of_ble_eq_true rfl) rfl ?_
  intro p e s m args below meth c A C
  unfold f_X12_reckons at hf
  refine wa_iconst (v := 0) C 1 dX12_reckons_0 rfl rfl ?_
  refine wa_istore_n (lv' := [(0, .ref (a 0)), (1, .int p0), (2, .int (0 : Int32))]) C [1, 2, 0] 2 dX12_reckons_1 rfl (Nat.le_of_ble_eq_true rfl) rfl ?_
  refine wa_iload_n C 1 3 dX12_reckons_2 rfl rfl ?_
  refine wa_istore_n (lv' := [(0, .ref (a 0)), (1, .int p0), (2, .int (0 : Int32)), (3, .int p0)]) C [1, 2, 3, 0] 4 dX12_reckons_3 rfl (Nat.le_of_ble_eq_true rfl) rfl ?_
  refine wa_lv (lv' := [(0, .ref (a 0)), (2, .int (0 : Int32)), (3, .int p0)]) [0, 2, 3] rfl ?_
  exact w_X12_reckons_L4 C FUEL (0 : Int32) p0 v hf
def f_X12_inHouse_L5 (l1 : Int32) (l2 : Int32) (z0 : MS) : Nat → Int32 → Int32 → Option (Int32)
  | 0, _, _ => none
  | n + 1, l3, l4 => (if (z0.1 1) ≤ l4 then some (l3) else grd (vi ((l1 + (2 : Int32)) + l4) 172) ((if (z0.2.2 10 (((l1 + (2 : Int32)) + l4)).toNatClampNeg) = l2 then bnd (l3 ||| ((1 : Int32) <<< (l4 &&& 31))) (fun x6 => bnd (l4 + 1) (fun x7 => f_X12_inHouse_L5 l1 l2 z0 n x6 x7)) else bnd (l3 ||| (0 : Int32)) (fun x4 => bnd (l4 + 1) (fun x5 => f_X12_inHouse_L5 l1 l2 z0 n x4 x5)))))
def f_X12_inHouse (v : MS) (p0 : Int32) (p1 : Int32) : Option (Int32) := f_X12_inHouse_L5 p0 p1 v FUEL (0 : Int32) (0 : Int32)
set_option maxRecDepth 20000 in
theorem w_X12_inHouse_L5 {p : Program} {l : Launch} {e : Env} {s : State} {m : MethodId} {args : Array Value} {below : List Frame} {meth : Method} {c : Code} {D : va_G} {A : Nat → Prop} {dT : Nat → ClassId} {a : Nat → Nat} {res : Int32} {l1 : Int32} {l2 : Int32} {z0 : MS} (C : Cx p s m args meth c cX12_inHouse 5 RX12 (some .int) D A dT) : ∀ (n : Nat) (l3 : Int32) (l4 : Int32), f_X12_inHouse_L5 l1 l2 z0 n l3 l4 = some res → WA p l e ({ frames := 0, cells := 0, slots := 0, locals := 0 } : Room) s m args below meth c (MQ below (QI D dT A ([wM dT a z0]) res) args s 0 0 A) D A 0 0 5 5 ([wM dT a z0]) [(0, .ref (a 0)), (1, .int l1), (2, .int l2), (3, .int l3), (4, .int l4)] [] := by
  intro n
  induction n with
  | zero => intro l3 l4 hf; cases hf
  | succ n ih =>
    intro l3 l4 hf
    unfold f_X12_inHouse_L5 at hf
    refine wa_iload C 4 7 dX12_inHouse_5 rfl rfl ?_
    refine wa_aload_n C 0 8 dX12_inHouse_7 rfl rfl ?_
    refine wa_get C 11 0 0 1 dX12_inHouse_8 rfl iX12 q1450 rfl (Nat.le_of_ble_eq_true rfl) rfl rfl rfl ?_
    refine wa_icmp_ge C 46 14 dX12_inHouse_11 rfl rfl (fun c1 => ?_) (fun c1 => ?_)
    · replace hf := ite_t hf c1
      refine wa_iload_n C 3 47 dX12_inHouse_46 rfl rfl ?_
      cases hf
      exact wa_iret C dX12_inHouse_47 rfl rfl
    · replace hf := ite_f hf c1
      refine wa_iload_n C 3 15 dX12_inHouse_14 rfl rfl ?_
      refine wa_aload_n C 0 16 dX12_inHouse_15 rfl rfl ?_
      refine wa_get C 19 0 0 34 dX12_inHouse_16 rfl iX12 q1483 rfl (Nat.le_of_ble_eq_true rfl) rfl rfl rfl ?_
      refine wa_iload_n C 1 20 dX12_inHouse_19 rfl rfl ?_
      refine wa_iconst (v := 2) C 21 dX12_inHouse_20 rfl rfl ?_
      refine wa_iadd C 22 dX12_inHouse_21 rfl ?_
      refine wa_iload C 4 24 dX12_inHouse_22 rfl rfl ?_
      refine wa_iadd C 25 dX12_inHouse_24 rfl ?_
      obtain ⟨g2, hf⟩ := grd_ex hf
      refine wa_iald C 26 0 10 dX12_inHouse_25 rfl rfl rfl (vi_in g2) ?_
      refine wa_iload_n C 2 27 dX12_inHouse_26 rfl rfl ?_
      refine wa_icmp_ne C 37 30 dX12_inHouse_27 rfl rfl (fun c3 => ?_) (fun c3 => ?_)
      · replace hf := ite_f hf c3
        refine wa_iconst (v := 0) C 38 dX12_inHouse_37 rfl rfl ?_
        refine wa_ior C 39 dX12_inHouse_38 rfl ?_
        obtain ⟨x4, ex4, hf⟩ := bnd_ex hf
        refine wa_topi ex4 ?_
        refine wa_istore_n (lv' := [(0, .ref (a 0)), (1, .int l1), (2, .int l2), (3, .int x4), (4, .int l4)]) C [1, 2, 3, 0, 4] 40 dX12_inHouse_39 rfl (Nat.le_of_ble_eq_true rfl) rfl ?_
        obtain ⟨x5, ex5, hf⟩ := bnd_ex hf
        refine wa_iinc (v := x5) (lv' := [(0, .ref (a 0)), (1, .int l1), (2, .int l2), (3, .int x4), (4, .int x5)]) C 4 [1, 2, 3, 4, 0] 43 dX12_inHouse_40 rfl rfl (by rw [ex5]; rfl) (Nat.le_of_ble_eq_true rfl) rfl ?_
        refine wa_goto C 5 dX12_inHouse_43 rfl ?_
        exact ih x4 x5 hf
      · replace hf := ite_t hf c3
        refine wa_iconst (v := 1) C 31 dX12_inHouse_30 rfl rfl ?_
        refine wa_iload C 4 33 dX12_inHouse_31 rfl rfl ?_
        refine wa_ishl C 34 dX12_inHouse_33 rfl ?_
        refine wa_goto C 38 dX12_inHouse_34 rfl ?_
        refine wa_ior C 39 dX12_inHouse_38 rfl ?_
        obtain ⟨x6, ex6, hf⟩ := bnd_ex hf
        refine wa_topi ex6 ?_
        refine wa_istore_n (lv' := [(0, .ref (a 0)), (1, .int l1), (2, .int l2), (3, .int x6), (4, .int l4)]) C [1, 2, 3, 0, 4] 40 dX12_inHouse_39 rfl (Nat.le_of_ble_eq_true rfl) rfl ?_
        obtain ⟨x7, ex7, hf⟩ := bnd_ex hf
        refine wa_iinc (v := x7) (lv' := [(0, .ref (a 0)), (1, .int l1), (2, .int l2), (3, .int x6), (4, .int x7)]) C 4 [1, 2, 3, 4, 0] 43 dX12_inHouse_40 rfl rfl (by rw [ex7]; rfl) (Nat.le_of_ble_eq_true rfl) rfl ?_
        refine wa_goto C 5 dX12_inHouse_43 rfl ?_
        exact ih x6 x7 hf
set_option maxRecDepth 20000 in
theorem c_X12_inHouse {l : Launch} {D : va_G} {dT : Nat → ClassId} {a : Nat → Nat} {v : MS} {p0 : Int32} {p1 : Int32} {res : Int32} (hf : f_X12_inHouse v p0 p1 = some res) : CTi l yX12_inHouse cX12_inHouse 5 (some .int) ({ frames := 0, cells := 0, slots := 0, locals := 0 } : Room) D dT [.ref (a 0), .int p0, .int p1] ([wM dT a v]) ([wM dT a v]) res := by
  refine CTi.of (by decide) (Nat.le_of_ble_eq_true rfl) rfl ?_
  intro p e s m args below meth c A C
  unfold f_X12_inHouse at hf
  refine wa_iconst (v := 0) C 1 dX12_inHouse_0 rfl rfl ?_
  refine wa_istore_n (lv' := [(0, .ref (a 0)), (1, .int p0), (2, .int p1), (3, .int (0 : Int32))]) C [1, 2, 3, 0] 2 dX12_inHouse_1 rfl (Nat.le_of_ble_eq_true rfl) rfl ?_
  refine wa_iconst (v := 0) C 3 dX12_inHouse_2 rfl rfl ?_
  refine wa_istore (lv' := [(0, .ref (a 0)), (1, .int p0), (2, .int p1), (3, .int (0 : Int32)), (4, .int (0 : Int32))]) C [1, 2, 3, 4, 0] 5 dX12_inHouse_3 rfl (Nat.le_of_ble_eq_true rfl) rfl ?_
  exact w_X12_inHouse_L5 C FUEL (0 : Int32) (0 : Int32) hf
theorem ks_X12_291 : KS RX12 291 yX12_bits cX12_bits 3 (some .int) 1 := KS.mk q1794 q1795 q13 q1796 ⟨by decide, by decide, by decide +kernel⟩
theorem kv_X12_288 : KV RX12 288 yX12_inHouse cX12_inHouse 5 (some .int) 2 := KV.mk q1790 q1792 qs75 q13 q1793 ⟨by decide, by decide, by decide +kernel⟩
def f_X12_sizeOf (v : MS) (p0 : Int32) (p1 : Int32) : Option (Int32) := (f_X12_inHouse v p0 p1).bind (fun q1 => (f_X12_bits q1).bind (fun q2 => some (q2)))
set_option maxRecDepth 20000 in
theorem c_X12_sizeOf {l : Launch} {D : va_G} {dT : Nat → ClassId} {a : Nat → Nat} {v : MS} {p0 : Int32} {p1 : Int32} {res : Int32} (hf : f_X12_sizeOf v p0 p1 = some res) : CTi l yX12_sizeOf cX12_sizeOf 3 (some .int) ({ frames := 1, cells := 0, slots := 0, locals := 24 } : Room) D dT [.ref (a 0), .int p0, .int p1] ([wM dT a v]) ([wM dT a v]) res := by
  refine CTi.of (by decide) (Nat.le_of_ble_eq_true rfl) rfl ?_
  intro p e s m args below meth c A C
  unfold f_X12_sizeOf at hf
  refine wa_aload_n C 0 1 dX12_sizeOf_0 rfl rfl ?_
  refine wa_iload_n C 1 2 dX12_sizeOf_1 rfl rfl ?_
  refine wa_iload_n C 2 3 dX12_sizeOf_2 rfl rfl ?_
  obtain ⟨q1, hq1, hf⟩ := bind_ex hf
  refine wa_callVAi (b1 := 0) (q1 := 0) (ci := 12) (As := [.int p0, .int p1]) C 6 dX12_sizeOf_3 rfl kv_X12_288 (c_X12_inHouse hq1) ⟨rfl, rfl⟩ ⟨Nat.le_of_ble_eq_true rfl, Nat.le_of_ble_eq_true rfl⟩ rfl rfl rfl rfl rfl ⟨Nat.zero_le _, Nat.zero_le _⟩ (Nat.le_of_ble_eq_true rfl) ?_
  obtain ⟨q2, hq2, hf⟩ := bind_ex hf
  refine wa_callS0i (As := [.int q1]) C 9 dX12_sizeOf_6 rfl ks_X12_291 (c_X12_bits hq2) ⟨rfl, rfl⟩ ⟨Nat.le_of_ble_eq_true rfl, Nat.le_of_ble_eq_true rfl⟩ rfl rfl ⟨Nat.zero_le _, Nat.zero_le _⟩ (Nat.le_of_ble_eq_true rfl) ?_
  cases hf
  exact wa_iret C dX12_sizeOf_9 rfl rfl
def f_X12_whoAt_L3 (l1 : Int32) (l2 : Int32) (l3 : Int32) (z0 : MS) : Nat → Int32 → Option (Int32)
  | 0, _ => none
  | n + 1, l4 => (if (z0.1 1) ≤ l4 then some ((-1 : Int32)) else grd (vi ((l1 + (2 : Int32)) + l4) 172) ((if (z0.2.2 10 (((l1 + (2 : Int32)) + l4)).toNatClampNeg) = l2 then grd (vi ((l1 + (14 : Int32)) + l4) 172) ((if (z0.2.2 10 (((l1 + (14 : Int32)) + l4)).toNatClampNeg) = l3 then some (l4) else bnd (l4 + 1) (fun x7 => f_X12_whoAt_L3 l1 l2 l3 z0 n x7))) else bnd (l4 + 1) (fun x4 => f_X12_whoAt_L3 l1 l2 l3 z0 n x4))))
def f_X12_whoAt (v : MS) (p0 : Int32) (p1 : Int32) (p2 : Int32) : Option (Int32) := f_X12_whoAt_L3 p0 p1 p2 v FUEL (0 : Int32)
set_option maxRecDepth 20000 in
theorem w_X12_whoAt_L3 {p : Program} {l : Launch} {e : Env} {s : State} {m : MethodId} {args : Array Value} {below : List Frame} {meth : Method} {c : Code} {D : va_G} {A : Nat → Prop} {dT : Nat → ClassId} {a : Nat → Nat} {res : Int32} {l1 : Int32} {l2 : Int32} {l3 : Int32} {z0 : MS} (C : Cx p s m args meth c cX12_whoAt 5 RX12 (some .int) D A dT) : ∀ (n : Nat) (l4 : Int32), f_X12_whoAt_L3 l1 l2 l3 z0 n l4 = some res → WA p l e ({ frames := 0, cells := 0, slots := 0, locals := 0 } : Room) s m args below meth c (MQ below (QI D dT A ([wM dT a z0]) res) args s 0 0 A) D A 0 0 5 3 ([wM dT a z0]) [(0, .ref (a 0)), (1, .int l1), (2, .int l2), (3, .int l3), (4, .int l4)] [] := by
  intro n
  induction n with
  | zero => intro l4 hf; cases hf
  | succ n ih =>
    intro l4 hf
    unfold f_X12_whoAt_L3 at hf
    refine wa_iload C 4 5 dX12_whoAt_3 rfl rfl ?_
    refine wa_aload_n C 0 6 dX12_whoAt_5 rfl rfl ?_
    refine wa_get C 9 0 0 1 dX12_whoAt_6 rfl iX12 q1450 rfl (Nat.le_of_ble_eq_true rfl) rfl rfl rfl ?_
    refine wa_icmp_ge C 52 12 dX12_whoAt_9 rfl rfl (fun c1 => ?_) (fun c1 => ?_)
    · replace hf := ite_t hf c1
      refine wa_iconst (v := (-1)) C 53 dX12_whoAt_52 rfl rfl ?_
      cases hf
      exact wa_iret C dX12_whoAt_53 rfl rfl
    · replace hf := ite_f hf c1
      refine wa_aload_n C 0 13 dX12_whoAt_12 rfl rfl ?_
      refine wa_get C 16 0 0 34 dX12_whoAt_13 rfl iX12 q1483 rfl (Nat.le_of_ble_eq_true rfl) rfl rfl rfl ?_
      refine wa_iload_n C 1 17 dX12_whoAt_16 rfl rfl ?_
      refine wa_iconst (v := 2) C 18 dX12_whoAt_17 rfl rfl ?_
      refine wa_iadd C 19 dX12_whoAt_18 rfl ?_
      refine wa_iload C 4 21 dX12_whoAt_19 rfl rfl ?_
      refine wa_iadd C 22 dX12_whoAt_21 rfl ?_
      obtain ⟨g2, hf⟩ := grd_ex hf
      refine wa_iald C 23 0 10 dX12_whoAt_22 rfl rfl rfl (vi_in g2) ?_
      refine wa_iload_n C 2 24 dX12_whoAt_23 rfl rfl ?_
      refine wa_icmp_ne C 46 27 dX12_whoAt_24 rfl rfl (fun c3 => ?_) (fun c3 => ?_)
      · replace hf := ite_f hf c3
        obtain ⟨x4, ex4, hf⟩ := bnd_ex hf
        refine wa_iinc (v := x4) (lv' := [(0, .ref (a 0)), (1, .int l1), (2, .int l2), (3, .int l3), (4, .int x4)]) C 4 [1, 2, 3, 4, 0] 49 dX12_whoAt_46 rfl rfl (by rw [ex4]; rfl) (Nat.le_of_ble_eq_true rfl) rfl ?_
        refine wa_goto C 3 dX12_whoAt_49 rfl ?_
        exact ih x4 hf
      · replace hf := ite_t hf c3
        refine wa_aload_n C 0 28 dX12_whoAt_27 rfl rfl ?_
        refine wa_get C 31 0 0 34 dX12_whoAt_28 rfl iX12 q1483 rfl (Nat.le_of_ble_eq_true rfl) rfl rfl rfl ?_
        refine wa_iload_n C 1 32 dX12_whoAt_31 rfl rfl ?_
        refine wa_bipush (v := 14) C 34 dX12_whoAt_32 rfl rfl ?_
        refine wa_iadd C 35 dX12_whoAt_34 rfl ?_
        refine wa_iload C 4 37 dX12_whoAt_35 rfl rfl ?_
        refine wa_iadd C 38 dX12_whoAt_37 rfl ?_
        obtain ⟨g5, hf⟩ := grd_ex hf
        refine wa_iald C 39 0 10 dX12_whoAt_38 rfl rfl rfl (vi_in g5) ?_
        refine wa_iload_n C 3 40 dX12_whoAt_39 rfl rfl ?_
        refine wa_icmp_ne C 46 43 dX12_whoAt_40 rfl rfl (fun c6 => ?_) (fun c6 => ?_)
        · replace hf := ite_f hf c6
          obtain ⟨x7, ex7, hf⟩ := bnd_ex hf
          refine wa_iinc (v := x7) (lv' := [(0, .ref (a 0)), (1, .int l1), (2, .int l2), (3, .int l3), (4, .int x7)]) C 4 [1, 2, 3, 4, 0] 49 dX12_whoAt_46 rfl rfl (by rw [ex7]; rfl) (Nat.le_of_ble_eq_true rfl) rfl ?_
          refine wa_goto C 3 dX12_whoAt_49 rfl ?_
          exact ih x7 hf
        · replace hf := ite_t hf c6
          refine wa_iload C 4 45 dX12_whoAt_43 rfl rfl ?_
          cases hf
          exact wa_iret C dX12_whoAt_45 rfl rfl
set_option maxRecDepth 20000 in
theorem c_X12_whoAt {l : Launch} {D : va_G} {dT : Nat → ClassId} {a : Nat → Nat} {v : MS} {p0 : Int32} {p1 : Int32} {p2 : Int32} {res : Int32} (hf : f_X12_whoAt v p0 p1 p2 = some res) : CTi l yX12_whoAt cX12_whoAt 5 (some .int) ({ frames := 0, cells := 0, slots := 0, locals := 0 } : Room) D dT [.ref (a 0), .int p0, .int p1, .int p2] ([wM dT a v]) ([wM dT a v]) res := by
  refine CTi.of (by decide) (Nat.le_of_ble_eq_true rfl) rfl ?_
  intro p e s m args below meth c A C
  unfold f_X12_whoAt at hf
  refine wa_iconst (v := 0) C 1 dX12_whoAt_0 rfl rfl ?_
  refine wa_istore (lv' := [(0, .ref (a 0)), (1, .int p0), (2, .int p1), (3, .int p2), (4, .int (0 : Int32))]) C [1, 2, 3, 4, 0] 3 dX12_whoAt_1 rfl (Nat.le_of_ble_eq_true rfl) rfl ?_
  exact w_X12_whoAt_L3 C FUEL (0 : Int32) hf
def f_X12_ranksOf_L5 (l1 : Int32) (l2 : Int32) (z0 : MS) : Nat → Int32 → Int32 → Option (Int32)
  | 0, _, _ => none
  | n + 1, l3, l4 => (if (z0.1 1) ≤ l4 then some (l3) else grd (vi ((l1 + (2 : Int32)) + l4) 172) ((if (z0.2.2 10 (((l1 + (2 : Int32)) + l4)).toNatClampNeg) = l2 then grd (vi ((l1 + (50 : Int32)) + l4) 172) (bnd (l3 + (z0.2.2 10 (((l1 + (50 : Int32)) + l4)).toNatClampNeg)) (fun x7 => bnd (l4 + 1) (fun x8 => f_X12_ranksOf_L5 l1 l2 z0 n x7 x8))) else bnd (l3 + (0 : Int32)) (fun x4 => bnd (l4 + 1) (fun x5 => f_X12_ranksOf_L5 l1 l2 z0 n x4 x5)))))
def f_X12_ranksOf (v : MS) (p0 : Int32) (p1 : Int32) : Option (Int32) := f_X12_ranksOf_L5 p0 p1 v FUEL (0 : Int32) (0 : Int32)
set_option maxRecDepth 20000 in
theorem w_X12_ranksOf_L5 {p : Program} {l : Launch} {e : Env} {s : State} {m : MethodId} {args : Array Value} {below : List Frame} {meth : Method} {c : Code} {D : va_G} {A : Nat → Prop} {dT : Nat → ClassId} {a : Nat → Nat} {res : Int32} {l1 : Int32} {l2 : Int32} {z0 : MS} (C : Cx p s m args meth c cX12_ranksOf 5 RX12 (some .int) D A dT) : ∀ (n : Nat) (l3 : Int32) (l4 : Int32), f_X12_ranksOf_L5 l1 l2 z0 n l3 l4 = some res → WA p l e ({ frames := 0, cells := 0, slots := 0, locals := 0 } : Room) s m args below meth c (MQ below (QI D dT A ([wM dT a z0]) res) args s 0 0 A) D A 0 0 5 5 ([wM dT a z0]) [(0, .ref (a 0)), (1, .int l1), (2, .int l2), (3, .int l3), (4, .int l4)] [] := by
  intro n
  induction n with
  | zero => intro l3 l4 hf; cases hf
  | succ n ih =>
    intro l3 l4 hf
    unfold f_X12_ranksOf_L5 at hf
    refine wa_iload C 4 7 dX12_ranksOf_5 rfl rfl ?_
    refine wa_aload_n C 0 8 dX12_ranksOf_7 rfl rfl ?_
    refine wa_get C 11 0 0 1 dX12_ranksOf_8 rfl iX12 q1450 rfl (Nat.le_of_ble_eq_true rfl) rfl rfl rfl ?_
    refine wa_icmp_ge C 54 14 dX12_ranksOf_11 rfl rfl (fun c1 => ?_) (fun c1 => ?_)
    · replace hf := ite_t hf c1
      refine wa_iload_n C 3 55 dX12_ranksOf_54 rfl rfl ?_
      cases hf
      exact wa_iret C dX12_ranksOf_55 rfl rfl
    · replace hf := ite_f hf c1
      refine wa_iload_n C 3 15 dX12_ranksOf_14 rfl rfl ?_
      refine wa_aload_n C 0 16 dX12_ranksOf_15 rfl rfl ?_
      refine wa_get C 19 0 0 34 dX12_ranksOf_16 rfl iX12 q1483 rfl (Nat.le_of_ble_eq_true rfl) rfl rfl rfl ?_
      refine wa_iload_n C 1 20 dX12_ranksOf_19 rfl rfl ?_
      refine wa_iconst (v := 2) C 21 dX12_ranksOf_20 rfl rfl ?_
      refine wa_iadd C 22 dX12_ranksOf_21 rfl ?_
      refine wa_iload C 4 24 dX12_ranksOf_22 rfl rfl ?_
      refine wa_iadd C 25 dX12_ranksOf_24 rfl ?_
      obtain ⟨g2, hf⟩ := grd_ex hf
      refine wa_iald C 26 0 10 dX12_ranksOf_25 rfl rfl rfl (vi_in g2) ?_
      refine wa_iload_n C 2 27 dX12_ranksOf_26 rfl rfl ?_
      refine wa_icmp_ne C 45 30 dX12_ranksOf_27 rfl rfl (fun c3 => ?_) (fun c3 => ?_)
      · replace hf := ite_f hf c3
        refine wa_iconst (v := 0) C 46 dX12_ranksOf_45 rfl rfl ?_
        refine wa_iadd C 47 dX12_ranksOf_46 rfl ?_
        obtain ⟨x4, ex4, hf⟩ := bnd_ex hf
        refine wa_topi ex4 ?_
        refine wa_istore_n (lv' := [(0, .ref (a 0)), (1, .int l1), (2, .int l2), (3, .int x4), (4, .int l4)]) C [1, 2, 3, 0, 4] 48 dX12_ranksOf_47 rfl (Nat.le_of_ble_eq_true rfl) rfl ?_
        obtain ⟨x5, ex5, hf⟩ := bnd_ex hf
        refine wa_iinc (v := x5) (lv' := [(0, .ref (a 0)), (1, .int l1), (2, .int l2), (3, .int x4), (4, .int x5)]) C 4 [1, 2, 3, 4, 0] 51 dX12_ranksOf_48 rfl rfl (by rw [ex5]; rfl) (Nat.le_of_ble_eq_true rfl) rfl ?_
        refine wa_goto C 5 dX12_ranksOf_51 rfl ?_
        exact ih x4 x5 hf
      · replace hf := ite_t hf c3
        refine wa_aload_n C 0 31 dX12_ranksOf_30 rfl rfl ?_
        refine wa_get C 34 0 0 34 dX12_ranksOf_31 rfl iX12 q1483 rfl (Nat.le_of_ble_eq_true rfl) rfl rfl rfl ?_
        refine wa_iload_n C 1 35 dX12_ranksOf_34 rfl rfl ?_
        refine wa_bipush (v := 50) C 37 dX12_ranksOf_35 rfl rfl ?_
        refine wa_iadd C 38 dX12_ranksOf_37 rfl ?_
        refine wa_iload C 4 40 dX12_ranksOf_38 rfl rfl ?_
        refine wa_iadd C 41 dX12_ranksOf_40 rfl ?_
        obtain ⟨g6, hf⟩ := grd_ex hf
        refine wa_iald C 42 0 10 dX12_ranksOf_41 rfl rfl rfl (vi_in g6) ?_
        refine wa_goto C 46 dX12_ranksOf_42 rfl ?_
        refine wa_iadd C 47 dX12_ranksOf_46 rfl ?_
        obtain ⟨x7, ex7, hf⟩ := bnd_ex hf
        refine wa_topi ex7 ?_
        refine wa_istore_n (lv' := [(0, .ref (a 0)), (1, .int l1), (2, .int l2), (3, .int x7), (4, .int l4)]) C [1, 2, 3, 0, 4] 48 dX12_ranksOf_47 rfl (Nat.le_of_ble_eq_true rfl) rfl ?_
        obtain ⟨x8, ex8, hf⟩ := bnd_ex hf
        refine wa_iinc (v := x8) (lv' := [(0, .ref (a 0)), (1, .int l1), (2, .int l2), (3, .int x7), (4, .int x8)]) C 4 [1, 2, 3, 4, 0] 51 dX12_ranksOf_48 rfl rfl (by rw [ex8]; rfl) (Nat.le_of_ble_eq_true rfl) rfl ?_
        refine wa_goto C 5 dX12_ranksOf_51 rfl ?_
        exact ih x7 x8 hf
set_option maxRecDepth 20000 in
theorem c_X12_ranksOf {l : Launch} {D : va_G} {dT : Nat → ClassId} {a : Nat → Nat} {v : MS} {p0 : Int32} {p1 : Int32} {res : Int32} (hf : f_X12_ranksOf v p0 p1 = some res) : CTi l yX12_ranksOf cX12_ranksOf 5 (some .int) ({ frames := 0, cells := 0, slots := 0, locals := 0 } : Room) D dT [.ref (a 0), .int p0, .int p1] ([wM dT a v]) ([wM dT a v]) res := by
  refine CTi.of (by decide) (Nat.le_of_ble_eq_true rfl) rfl ?_
  intro p e s m args below meth c A C
  unfold f_X12_ranksOf at hf
  refine wa_iconst (v := 0) C 1 dX12_ranksOf_0 rfl rfl ?_
  refine wa_istore_n (lv' := [(0, .ref (a 0)), (1, .int p0), (2, .int p1), (3, .int (0 : Int32))]) C [1, 2, 3, 0] 2 dX12_ranksOf_1 rfl (Nat.le_of_ble_eq_true rfl) rfl ?_
  refine wa_iconst (v := 0) C 3 dX12_ranksOf_2 rfl rfl ?_
  refine wa_istore (lv' := [(0, .ref (a 0)), (1, .int p0), (2, .int p1), (3, .int (0 : Int32)), (4, .int (0 : Int32))]) C [1, 2, 3, 4, 0] 5 dX12_ranksOf_3 rfl (Nat.le_of_ble_eq_true rfl) rfl ?_
  exact w_X12_ranksOf_L5 C FUEL (0 : Int32) (0 : Int32) hf
theorem kv_X12_297 : KV RX12 297 yX12_sizeOf cX12_sizeOf 3 (some .int) 2 := KV.mk q1786 q1788 qs74 q13 q1789 ⟨by decide, by decide, by decide +kernel⟩
theorem kv_X12_300 : KV RX12 300 yX12_ranksOf cX12_ranksOf 5 (some .int) 2 := KV.mk q1845 q1847 qs87 q13 q1848 ⟨by decide, by decide, by decide +kernel⟩
theorem kv_X12_303 : KV RX12 303 yX12_reckons cX12_reckons 5 (some .int) 1 := KV.mk q1849 q1851 qs88 q13 q1852 ⟨by decide, by decide, by decide +kernel⟩
def f_X12_staysIn (v : MS) (p0 : Int32) (p1 : Int32) : Option (Int32 × MS) := (if (v.1 39) = 0 then (if (v.1 4) = (-1 : Int32) then some ((0 : Int32), v) else (f_X12_sizeOf v p0 p1).bind (fun q3 => grd (vi (4 : Int32) 9) (bnd (v.1, v.2.1, uA v.2.2 12 ((4 : Int32)).toNatClampNeg q3) (fun y5 => grd (vi (p0 + (0 : Int32)) 172) (grd (vi (5 : Int32) 9) (bnd (y5.1, y5.2.1, uA y5.2.2 12 ((5 : Int32)).toNatClampNeg (y5.2.2 10 ((p0 + (0 : Int32))).toNatClampNeg)) (fun y8 => grd (vi (6 : Int32) 9) (bnd (y8.1, y8.2.1, uA y8.2.2 12 ((6 : Int32)).toNatClampNeg p1) (fun y10 => (f_X12_ranksOf y10 p0 p1).bind (fun q11 => grd (vi (7 : Int32) 9) (bnd (y10.1, y10.2.1, uA y10.2.2 12 ((7 : Int32)).toNatClampNeg q11) (fun y13 => grd (vi ((p0 + (62 : Int32)) + p1) 172) (grd (vi (8 : Int32) 9) (bnd (y13.1, y13.2.1, uA y13.2.2 12 ((8 : Int32)).toNatClampNeg (y13.2.2 10 (((p0 + (62 : Int32)) + p1)).toNatClampNeg)) (fun y16 => (f_X12_reckons y16 (y16.1 4)).bind (fun q17 => (if q17.1 ≤ 0 then some ((0 : Int32), q17.2) else some ((1 : Int32), q17.2)))))))))))))))))) else some ((1 : Int32), v))
set_option maxRecDepth 20000 in
theorem c_X12_staysIn {l : Launch} {D : va_G} {dT : Nat → ClassId} {a : Nat → Nat} {v : MS} {p0 : Int32} {p1 : Int32} {res : Int32 × MS} (hf : f_X12_staysIn v p0 p1 = some res) : CTi l yX12_staysIn cX12_staysIn 3 (some .boolean) ({ frames := 2, cells := 0, slots := 0, locals := 46 } : Room) D dT [.ref (a 0), .int p0, .int p1] ([wM dT a v]) ([wM dT a res.2]) res.1 := by
  refine CTi.of (by decide) (Nat.le_of_ble_eq_true rfl) rfl ?_
  intro p e s m args below meth c A C
  unfold f_X12_staysIn at hf
  refine wa_aload_n C 0 1 dX12_staysIn_0 rfl rfl ?_
  refine wa_get C 4 0 0 39 dX12_staysIn_1 rfl iX12 q1488 rfl (Nat.le_of_ble_eq_true rfl) rfl rfl rfl ?_
  refine wa_if_eq C 9 7 dX12_staysIn_4 rfl rfl (fun c1 => ?_) (fun c1 => ?_)
  · replace hf := ite_t hf c1
    refine wa_aload_n C 0 10 dX12_staysIn_9 rfl rfl ?_
    refine wa_get C 13 0 0 4 dX12_staysIn_10 rfl iX12 q1453 rfl (Nat.le_of_ble_eq_true rfl) rfl rfl rfl ?_
    refine wa_iconst (v := (-1)) C 14 dX12_staysIn_13 rfl rfl ?_
    refine wa_icmp_ne C 19 17 dX12_staysIn_14 rfl rfl (fun c2 => ?_) (fun c2 => ?_)
    · replace hf := ite_f hf c2
      refine wa_aload_n C 0 20 dX12_staysIn_19 rfl rfl ?_
      refine wa_get C 23 0 0 37 dX12_staysIn_20 rfl iX12 q1486 rfl (Nat.le_of_ble_eq_true rfl) rfl rfl rfl ?_
      refine wa_iconst (v := 4) C 24 dX12_staysIn_23 rfl rfl ?_
      refine wa_aload_n C 0 25 dX12_staysIn_24 rfl rfl ?_
      refine wa_iload_n C 1 26 dX12_staysIn_25 rfl rfl ?_
      refine wa_iload_n C 2 27 dX12_staysIn_26 rfl rfl ?_
      obtain ⟨q3, hq3, hf⟩ := bind_ex hf
      refine wa_callVAi (b1 := 0) (q1 := 0) (ci := 12) (As := [.int p0, .int p1]) C 30 dX12_staysIn_27 rfl kv_X12_297 (c_X12_sizeOf hq3) ⟨rfl, rfl⟩ ⟨Nat.le_of_ble_eq_true rfl, Nat.le_of_ble_eq_true rfl⟩ rfl rfl rfl rfl rfl ⟨Nat.zero_le _, Nat.zero_le _⟩ (Nat.le_of_ble_eq_true rfl) ?_
      obtain ⟨g4, hf⟩ := grd_ex hf
      obtain ⟨y5, ey5, hf⟩ := bnd_ex hf
      refine wa_iast (ws' := [wM dT a y5]) C 31 0 12 dX12_staysIn_30 rfl rfl rfl (vi_in g4) (by rw [ey5]; rfl) ?_
      refine wa_aload_n C 0 32 dX12_staysIn_31 rfl rfl ?_
      refine wa_get C 35 0 0 37 dX12_staysIn_32 rfl iX12 q1486 rfl (Nat.le_of_ble_eq_true rfl) rfl rfl rfl ?_
      refine wa_iconst (v := 5) C 36 dX12_staysIn_35 rfl rfl ?_
      refine wa_aload_n C 0 37 dX12_staysIn_36 rfl rfl ?_
      refine wa_get C 40 0 0 34 dX12_staysIn_37 rfl iX12 q1483 rfl (Nat.le_of_ble_eq_true rfl) rfl rfl rfl ?_
      refine wa_iload_n C 1 41 dX12_staysIn_40 rfl rfl ?_
      refine wa_iconst (v := 0) C 42 dX12_staysIn_41 rfl rfl ?_
      refine wa_iadd C 43 dX12_staysIn_42 rfl ?_
      obtain ⟨g6, hf⟩ := grd_ex hf
      refine wa_iald C 44 0 10 dX12_staysIn_43 rfl rfl rfl (vi_in g6) ?_
      obtain ⟨g7, hf⟩ := grd_ex hf
      obtain ⟨y8, ey8, hf⟩ := bnd_ex hf
      refine wa_iast (ws' := [wM dT a y8]) C 45 0 12 dX12_staysIn_44 rfl rfl rfl (vi_in g7) (by rw [ey8]; rfl) ?_
      refine wa_aload_n C 0 46 dX12_staysIn_45 rfl rfl ?_
      refine wa_get C 49 0 0 37 dX12_staysIn_46 rfl iX12 q1486 rfl (Nat.le_of_ble_eq_true rfl) rfl rfl rfl ?_
      refine wa_bipush (v := 6) C 51 dX12_staysIn_49 rfl rfl ?_
      refine wa_iload_n C 2 52 dX12_staysIn_51 rfl rfl ?_
      obtain ⟨g9, hf⟩ := grd_ex hf
      obtain ⟨y10, ey10, hf⟩ := bnd_ex hf
      refine wa_iast (ws' := [wM dT a y10]) C 53 0 12 dX12_staysIn_52 rfl rfl rfl (vi_in g9) (by rw [ey10]; rfl) ?_
      refine wa_aload_n C 0 54 dX12_staysIn_53 rfl rfl ?_
      refine wa_get C 57 0 0 37 dX12_staysIn_54 rfl iX12 q1486 rfl (Nat.le_of_ble_eq_true rfl) rfl rfl rfl ?_
      refine wa_bipush (v := 7) C 59 dX12_staysIn_57 rfl rfl ?_
      refine wa_aload_n C 0 60 dX12_staysIn_59 rfl rfl ?_
      refine wa_iload_n C 1 61 dX12_staysIn_60 rfl rfl ?_
      refine wa_iload_n C 2 62 dX12_staysIn_61 rfl rfl ?_
      obtain ⟨q11, hq11, hf⟩ := bind_ex hf
      refine wa_callVAi (b1 := 0) (q1 := 0) (ci := 12) (As := [.int p0, .int p1]) C 65 dX12_staysIn_62 rfl kv_X12_300 (c_X12_ranksOf hq11) ⟨rfl, rfl⟩ ⟨Nat.le_of_ble_eq_true rfl, Nat.le_of_ble_eq_true rfl⟩ rfl rfl rfl rfl rfl ⟨Nat.zero_le _, Nat.zero_le _⟩ (Nat.le_of_ble_eq_true rfl) ?_
      obtain ⟨g12, hf⟩ := grd_ex hf
      obtain ⟨y13, ey13, hf⟩ := bnd_ex hf
      refine wa_iast (ws' := [wM dT a y13]) C 66 0 12 dX12_staysIn_65 rfl rfl rfl (vi_in g12) (by rw [ey13]; rfl) ?_
      refine wa_aload_n C 0 67 dX12_staysIn_66 rfl rfl ?_
      refine wa_get C 70 0 0 37 dX12_staysIn_67 rfl iX12 q1486 rfl (Nat.le_of_ble_eq_true rfl) rfl rfl rfl ?_
      refine wa_bipush (v := 8) C 72 dX12_staysIn_70 rfl rfl ?_
      refine wa_aload_n C 0 73 dX12_staysIn_72 rfl rfl ?_
      refine wa_get C 76 0 0 34 dX12_staysIn_73 rfl iX12 q1483 rfl (Nat.le_of_ble_eq_true rfl) rfl rfl rfl ?_
      refine wa_iload_n C 1 77 dX12_staysIn_76 rfl rfl ?_
      refine wa_bipush (v := 62) C 79 dX12_staysIn_77 rfl rfl ?_
      refine wa_iadd C 80 dX12_staysIn_79 rfl ?_
      refine wa_iload_n C 2 81 dX12_staysIn_80 rfl rfl ?_
      refine wa_iadd C 82 dX12_staysIn_81 rfl ?_
      obtain ⟨g14, hf⟩ := grd_ex hf
      refine wa_iald C 83 0 10 dX12_staysIn_82 rfl rfl rfl (vi_in g14) ?_
      obtain ⟨g15, hf⟩ := grd_ex hf
      obtain ⟨y16, ey16, hf⟩ := bnd_ex hf
      refine wa_iast (ws' := [wM dT a y16]) C 84 0 12 dX12_staysIn_83 rfl rfl rfl (vi_in g15) (by rw [ey16]; rfl) ?_
      refine wa_aload_n C 0 85 dX12_staysIn_84 rfl rfl ?_
      refine wa_aload_n C 0 86 dX12_staysIn_85 rfl rfl ?_
      refine wa_get C 89 0 0 4 dX12_staysIn_86 rfl iX12 q1453 rfl (Nat.le_of_ble_eq_true rfl) rfl rfl rfl ?_
      obtain ⟨q17, hq17, hf⟩ := bind_ex hf
      refine wa_callVAi (b1 := 0) (q1 := 0) (ci := 12) (As := [.int (y16.1 4)]) C 92 dX12_staysIn_89 rfl kv_X12_303 (c_X12_reckons hq17) ⟨rfl, rfl⟩ ⟨Nat.le_of_ble_eq_true rfl, Nat.le_of_ble_eq_true rfl⟩ rfl rfl rfl rfl rfl ⟨Nat.zero_le _, Nat.zero_le _⟩ (Nat.le_of_ble_eq_true rfl) ?_
      refine wa_if_le C 99 95 dX12_staysIn_92 rfl rfl (fun c18 => ?_) (fun c18 => ?_)
      · replace hf := ite_t hf c18
        refine wa_iconst (v := 0) C 100 dX12_staysIn_99 rfl rfl ?_
        cases hf
        exact wa_zret C dX12_staysIn_100 rfl rfl rfl
      · replace hf := ite_f hf c18
        refine wa_iconst (v := 1) C 96 dX12_staysIn_95 rfl rfl ?_
        refine wa_goto C 100 dX12_staysIn_96 rfl ?_
        cases hf
        exact wa_zret C dX12_staysIn_100 rfl rfl rfl
    · replace hf := ite_t hf c2
      refine wa_iconst (v := 0) C 18 dX12_staysIn_17 rfl rfl ?_
      cases hf
      exact wa_zret C dX12_staysIn_18 rfl rfl rfl
  · replace hf := ite_f hf c1
    refine wa_iconst (v := 1) C 8 dX12_staysIn_7 rfl rfl ?_
    cases hf
    exact wa_zret C dX12_staysIn_8 rfl rfl rfl
def f_X12_picksBy (v : MS) (p0 : Int32) (p1 : Int32) : Option (Int32 × MS) := (if (v.1 3) = (-1 : Int32) then grd (vi ((p0 + (14 : Int32)) + p1) 172) (some ((v.2.2 10 (((p0 + (14 : Int32)) + p1)).toNatClampNeg), v)) else grd (vi ((p0 + (50 : Int32)) + p1) 172) (grd (vi (0 : Int32) 9) (bnd (v.1, v.2.1, uA v.2.2 12 ((0 : Int32)).toNatClampNeg (v.2.2 10 (((p0 + (50 : Int32)) + p1)).toNatClampNeg)) (fun y4 => grd (vi ((p0 + (14 : Int32)) + p1) 172) (grd (vi (1 : Int32) 9) (bnd (y4.1, y4.2.1, uA y4.2.2 12 ((1 : Int32)).toNatClampNeg (y4.2.2 10 (((p0 + (14 : Int32)) + p1)).toNatClampNeg)) (fun y7 => grd (vi ((p0 + (26 : Int32)) + p1) 172) (grd (vi (2 : Int32) 9) (bnd (y7.1, y7.2.1, uA y7.2.2 12 ((2 : Int32)).toNatClampNeg (y7.2.2 10 (((p0 + (26 : Int32)) + p1)).toNatClampNeg)) (fun y10 => grd (vi ((p0 + (38 : Int32)) + p1) 172) (grd (vi (3 : Int32) 9) (bnd (y10.1, y10.2.1, uA y10.2.2 12 ((3 : Int32)).toNatClampNeg (y10.2.2 10 (((p0 + (38 : Int32)) + p1)).toNatClampNeg)) (fun y13 => grd (vi ((p0 + (2 : Int32)) + p1) 172) ((f_X12_sizeOf y13 p0 (y13.2.2 10 (((p0 + (2 : Int32)) + p1)).toNatClampNeg)).bind (fun q15 => grd (vi (4 : Int32) 9) (bnd (y13.1, y13.2.1, uA y13.2.2 12 ((4 : Int32)).toNatClampNeg q15) (fun y17 => grd (vi (p0 + (0 : Int32)) 172) (grd (vi (5 : Int32) 9) (bnd (y17.1, y17.2.1, uA y17.2.2 12 ((5 : Int32)).toNatClampNeg (y17.2.2 10 ((p0 + (0 : Int32))).toNatClampNeg)) (fun y20 => (f_X12_reckons y20 (y20.1 3)).bind (fun q21 => some (q21.1, q21.2))))))))))))))))))))))
set_option maxRecDepth 20000 in
theorem c_X12_picksBy {l : Launch} {D : va_G} {dT : Nat → ClassId} {a : Nat → Nat} {v : MS} {p0 : Int32} {p1 : Int32} {res : Int32 × MS} (hf : f_X12_picksBy v p0 p1 = some res) : CTi l yX12_picksBy cX12_picksBy 3 (some .int) ({ frames := 2, cells := 0, slots := 0, locals := 46 } : Room) D dT [.ref (a 0), .int p0, .int p1] ([wM dT a v]) ([wM dT a res.2]) res.1 := by
  refine CTi.of (by decide) (Nat.le_of_ble_eq_true rfl) rfl ?_
  intro p e s m args below meth c A C
  unfold f_X12_picksBy at hf
  refine wa_aload_n C 0 1 dX12_picksBy_0 rfl rfl ?_
  refine wa_get C 4 0 0 3 dX12_picksBy_1 rfl iX12 q1452 rfl (Nat.le_of_ble_eq_true rfl) rfl rfl rfl ?_
  refine wa_iconst (v := (-1)) C 5 dX12_picksBy_4 rfl rfl ?_
  refine wa_icmp_ne C 20 8 dX12_picksBy_5 rfl rfl (fun c1 => ?_) (fun c1 => ?_)
  · replace hf := ite_f hf c1
    refine wa_aload_n C 0 21 dX12_picksBy_20 rfl rfl ?_
    refine wa_get C 24 0 0 37 dX12_picksBy_21 rfl iX12 q1486 rfl (Nat.le_of_ble_eq_true rfl) rfl rfl rfl ?_
    refine wa_iconst (v := 0) C 25 dX12_picksBy_24 rfl rfl ?_
    refine wa_aload_n C 0 26 dX12_picksBy_25 rfl rfl ?_
    refine wa_get C 29 0 0 34 dX12_picksBy_26 rfl iX12 q1483 rfl (Nat.le_of_ble_eq_true rfl) rfl rfl rfl ?_
    refine wa_iload_n C 1 30 dX12_picksBy_29 rfl rfl ?_
    refine wa_bipush (v := 50) C 32 dX12_picksBy_30 rfl rfl ?_
    refine wa_iadd C 33 dX12_picksBy_32 rfl ?_
    refine wa_iload_n C 2 34 dX12_picksBy_33 rfl rfl ?_
    refine wa_iadd C 35 dX12_picksBy_34 rfl ?_
    obtain ⟨g2, hf⟩ := grd_ex hf
    refine wa_iald C 36 0 10 dX12_picksBy_35 rfl rfl rfl (vi_in g2) ?_
    obtain ⟨g3, hf⟩ := grd_ex hf
    obtain ⟨y4, ey4, hf⟩ := bnd_ex hf
    refine wa_iast (ws' := [wM dT a y4]) C 37 0 12 dX12_picksBy_36 rfl rfl rfl (vi_in g3) (by rw [ey4]; rfl) ?_
    refine wa_aload_n C 0 38 dX12_picksBy_37 rfl rfl ?_
    refine wa_get C 41 0 0 37 dX12_picksBy_38 rfl iX12 q1486 rfl (Nat.le_of_ble_eq_true rfl) rfl rfl rfl ?_
    refine wa_iconst (v := 1) C 42 dX12_picksBy_41 rfl rfl ?_
    refine wa_aload_n C 0 43 dX12_picksBy_42 rfl rfl ?_
    refine wa_get C 46 0 0 34 dX12_picksBy_43 rfl iX12 q1483 rfl (Nat.le_of_ble_eq_true rfl) rfl rfl rfl ?_
    refine wa_iload_n C 1 47 dX12_picksBy_46 rfl rfl ?_
    refine wa_bipush (v := 14) C 49 dX12_picksBy_47 rfl rfl ?_
    refine wa_iadd C 50 dX12_picksBy_49 rfl ?_
    refine wa_iload_n C 2 51 dX12_picksBy_50 rfl rfl ?_
    refine wa_iadd C 52 dX12_picksBy_51 rfl ?_
    obtain ⟨g5, hf⟩ := grd_ex hf
    refine wa_iald C 53 0 10 dX12_picksBy_52 rfl rfl rfl (vi_in g5) ?_
    obtain ⟨g6, hf⟩ := grd_ex hf
    obtain ⟨y7, ey7, hf⟩ := bnd_ex hf
    refine wa_iast (ws' := [wM dT a y7]) C 54 0 12 dX12_picksBy_53 rfl rfl rfl (vi_in g6) (by rw [ey7]; rfl) ?_
    refine wa_aload_n C 0 55 dX12_picksBy_54 rfl rfl ?_
    refine wa_get C 58 0 0 37 dX12_picksBy_55 rfl iX12 q1486 rfl (Nat.le_of_ble_eq_true rfl) rfl rfl rfl ?_
    refine wa_iconst (v := 2) C 59 dX12_picksBy_58 rfl rfl ?_
    refine wa_aload_n C 0 60 dX12_picksBy_59 rfl rfl ?_
    refine wa_get C 63 0 0 34 dX12_picksBy_60 rfl iX12 q1483 rfl (Nat.le_of_ble_eq_true rfl) rfl rfl rfl ?_
    refine wa_iload_n C 1 64 dX12_picksBy_63 rfl rfl ?_
    refine wa_bipush (v := 26) C 66 dX12_picksBy_64 rfl rfl ?_
    refine wa_iadd C 67 dX12_picksBy_66 rfl ?_
    refine wa_iload_n C 2 68 dX12_picksBy_67 rfl rfl ?_
    refine wa_iadd C 69 dX12_picksBy_68 rfl ?_
    obtain ⟨g8, hf⟩ := grd_ex hf
    refine wa_iald C 70 0 10 dX12_picksBy_69 rfl rfl rfl (vi_in g8) ?_
    obtain ⟨g9, hf⟩ := grd_ex hf
    obtain ⟨y10, ey10, hf⟩ := bnd_ex hf
    refine wa_iast (ws' := [wM dT a y10]) C 71 0 12 dX12_picksBy_70 rfl rfl rfl (vi_in g9) (by rw [ey10]; rfl) ?_
    refine wa_aload_n C 0 72 dX12_picksBy_71 rfl rfl ?_
    refine wa_get C 75 0 0 37 dX12_picksBy_72 rfl iX12 q1486 rfl (Nat.le_of_ble_eq_true rfl) rfl rfl rfl ?_
    refine wa_iconst (v := 3) C 76 dX12_picksBy_75 rfl rfl ?_
    refine wa_aload_n C 0 77 dX12_picksBy_76 rfl rfl ?_
    refine wa_get C 80 0 0 34 dX12_picksBy_77 rfl iX12 q1483 rfl (Nat.le_of_ble_eq_true rfl) rfl rfl rfl ?_
    refine wa_iload_n C 1 81 dX12_picksBy_80 rfl rfl ?_
    refine wa_bipush (v := 38) C 83 dX12_picksBy_81 rfl rfl ?_
    refine wa_iadd C 84 dX12_picksBy_83 rfl ?_
    refine wa_iload_n C 2 85 dX12_picksBy_84 rfl rfl ?_
    refine wa_iadd C 86 dX12_picksBy_85 rfl ?_
    obtain ⟨g11, hf⟩ := grd_ex hf
    refine wa_iald C 87 0 10 dX12_picksBy_86 rfl rfl rfl (vi_in g11) ?_
    obtain ⟨g12, hf⟩ := grd_ex hf
    obtain ⟨y13, ey13, hf⟩ := bnd_ex hf
    refine wa_iast (ws' := [wM dT a y13]) C 88 0 12 dX12_picksBy_87 rfl rfl rfl (vi_in g12) (by rw [ey13]; rfl) ?_
    refine wa_aload_n C 0 89 dX12_picksBy_88 rfl rfl ?_
    refine wa_get C 92 0 0 37 dX12_picksBy_89 rfl iX12 q1486 rfl (Nat.le_of_ble_eq_true rfl) rfl rfl rfl ?_
    refine wa_iconst (v := 4) C 93 dX12_picksBy_92 rfl rfl ?_
    refine wa_aload_n C 0 94 dX12_picksBy_93 rfl rfl ?_
    refine wa_iload_n C 1 95 dX12_picksBy_94 rfl rfl ?_
    refine wa_aload_n C 0 96 dX12_picksBy_95 rfl rfl ?_
    refine wa_get C 99 0 0 34 dX12_picksBy_96 rfl iX12 q1483 rfl (Nat.le_of_ble_eq_true rfl) rfl rfl rfl ?_
    refine wa_iload_n C 1 100 dX12_picksBy_99 rfl rfl ?_
    refine wa_iconst (v := 2) C 101 dX12_picksBy_100 rfl rfl ?_
    refine wa_iadd C 102 dX12_picksBy_101 rfl ?_
    refine wa_iload_n C 2 103 dX12_picksBy_102 rfl rfl ?_
    refine wa_iadd C 104 dX12_picksBy_103 rfl ?_
    obtain ⟨g14, hf⟩ := grd_ex hf
    refine wa_iald C 105 0 10 dX12_picksBy_104 rfl rfl rfl (vi_in g14) ?_
    obtain ⟨q15, hq15, hf⟩ := bind_ex hf
    refine wa_callVAi (b1 := 0) (q1 := 0) (ci := 12) (As := [.int p0, .int (y13.2.2 10 (((p0 + (2 : Int32)) + p1)).toNatClampNeg)]) C 108 dX12_picksBy_105 rfl kv_X12_297 (c_X12_sizeOf hq15) ⟨rfl, rfl⟩ ⟨Nat.le_of_ble_eq_true rfl, Nat.le_of_ble_eq_true rfl⟩ rfl rfl rfl rfl rfl ⟨Nat.zero_le _, Nat.zero_le _⟩ (Nat.le_of_ble_eq_true rfl) ?_
    obtain ⟨g16, hf⟩ := grd_ex hf
    obtain ⟨y17, ey17, hf⟩ := bnd_ex hf
    refine wa_iast (ws' := [wM dT a y17]) C 109 0 12 dX12_picksBy_108 rfl rfl rfl (vi_in g16) (by rw [ey17]; rfl) ?_
    refine wa_aload_n C 0 110 dX12_picksBy_109 rfl rfl ?_
    refine wa_get C 113 0 0 37 dX12_picksBy_110 rfl iX12 q1486 rfl (Nat.le_of_ble_eq_true rfl) rfl rfl rfl ?_
    refine wa_iconst (v := 5) C 114 dX12_picksBy_113 rfl rfl ?_
    refine wa_aload_n C 0 115 dX12_picksBy_114 rfl rfl ?_
    refine wa_get C 118 0 0 34 dX12_picksBy_115 rfl iX12 q1483 rfl (Nat.le_of_ble_eq_true rfl) rfl rfl rfl ?_
    refine wa_iload_n C 1 119 dX12_picksBy_118 rfl rfl ?_
    refine wa_iconst (v := 0) C 120 dX12_picksBy_119 rfl rfl ?_
    refine wa_iadd C 121 dX12_picksBy_120 rfl ?_
    obtain ⟨g18, hf⟩ := grd_ex hf
    refine wa_iald C 122 0 10 dX12_picksBy_121 rfl rfl rfl (vi_in g18) ?_
    obtain ⟨g19, hf⟩ := grd_ex hf
    obtain ⟨y20, ey20, hf⟩ := bnd_ex hf
    refine wa_iast (ws' := [wM dT a y20]) C 123 0 12 dX12_picksBy_122 rfl rfl rfl (vi_in g19) (by rw [ey20]; rfl) ?_
    refine wa_aload_n C 0 124 dX12_picksBy_123 rfl rfl ?_
    refine wa_aload_n C 0 125 dX12_picksBy_124 rfl rfl ?_
    refine wa_get C 128 0 0 3 dX12_picksBy_125 rfl iX12 q1452 rfl (Nat.le_of_ble_eq_true rfl) rfl rfl rfl ?_
    obtain ⟨q21, hq21, hf⟩ := bind_ex hf
    refine wa_callVAi (b1 := 0) (q1 := 0) (ci := 12) (As := [.int (y20.1 3)]) C 131 dX12_picksBy_128 rfl kv_X12_303 (c_X12_reckons hq21) ⟨rfl, rfl⟩ ⟨Nat.le_of_ble_eq_true rfl, Nat.le_of_ble_eq_true rfl⟩ rfl rfl rfl rfl rfl ⟨Nat.zero_le _, Nat.zero_le _⟩ (Nat.le_of_ble_eq_true rfl) ?_
    cases hf
    exact wa_iret C dX12_picksBy_131 rfl rfl
  · replace hf := ite_t hf c1
    refine wa_aload_n C 0 9 dX12_picksBy_8 rfl rfl ?_
    refine wa_get C 12 0 0 34 dX12_picksBy_9 rfl iX12 q1483 rfl (Nat.le_of_ble_eq_true rfl) rfl rfl rfl ?_
    refine wa_iload_n C 1 13 dX12_picksBy_12 rfl rfl ?_
    refine wa_bipush (v := 14) C 15 dX12_picksBy_13 rfl rfl ?_
    refine wa_iadd C 16 dX12_picksBy_15 rfl ?_
    refine wa_iload_n C 2 17 dX12_picksBy_16 rfl rfl ?_
    refine wa_iadd C 18 dX12_picksBy_17 rfl ?_
    obtain ⟨g22, hf⟩ := grd_ex hf
    refine wa_iald C 19 0 10 dX12_picksBy_18 rfl rfl rfl (vi_in g22) ?_
    cases hf
    exact wa_iret C dX12_picksBy_19 rfl rfl
theorem kv_X12_306 : KV RX12 306 yX12_staysIn cX12_staysIn 3 (some .boolean) 2 := KV.mk q1841 q1843 qs86 q13 q1844 ⟨by decide, by decide, by decide +kernel⟩
theorem kv_X12_310 : KV RX12 310 yX12_whoAt cX12_whoAt 5 (some .int) 3 := KV.mk q1856 q1858 qs89 q13 q1859 ⟨by decide, by decide, by decide +kernel⟩
theorem kv_X12_316 : KV RX12 316 yX12_picksBy cX12_picksBy 3 (some .int) 2 := KV.mk q1860 q1862 qs90 q13 q1863 ⟨by decide, by decide, by decide +kernel⟩
def f_X12_goerOf_L27 (l1 : Int32) (l2 : Int32) (l5 : Int32) : Nat → Int32 → Int32 → Int32 → MS → Option (Int32 × MS)
  | 0, _, _, _, _ => none
  | n + 1, l3, l4, l6, z0 => (if l5 ≤ l6 then some (l3, z0) else (f_X12_whoAt z0 l1 l2 l6).bind (fun q5 => (if (((z0.1 40) >>> (q5 &&& 31)) &&& (1 : Int32)) = (1 : Int32) then bnd (l6 + 1) (fun x13 => f_X12_goerOf_L27 l1 l2 l5 n l3 l4 x13 z0) else (f_X12_picksBy z0 l1 q5).bind (fun q7 => (if l3 = (-1 : Int32) then bnd (l6 + 1) (fun x9 => f_X12_goerOf_L27 l1 l2 l5 n q5 q7.1 x9 q7.2) else (if l4 ≤ q7.1 then bnd (l6 + 1) (fun x11 => f_X12_goerOf_L27 l1 l2 l5 n q5 q7.1 x11 q7.2) else bnd (l6 + 1) (fun x12 => f_X12_goerOf_L27 l1 l2 l5 n l3 l4 x12 q7.2)))))))
def f_X12_goerOf (v : MS) (p0 : Int32) (p1 : Int32) : Option (Int32 × MS) := (f_X12_staysIn v p0 p1).bind (fun q1 => (if q1.1 = 0 then (f_X12_sizeOf q1.2 p0 p1).bind (fun q3 => f_X12_goerOf_L27 p0 p1 q3 FUEL (-1 : Int32) (0 : Int32) (0 : Int32) q1.2) else some ((-1 : Int32), q1.2)))
set_option maxRecDepth 20000 in
theorem w_X12_goerOf_L27 {p : Program} {l : Launch} {e : Env} {s : State} {m : MethodId} {args : Array Value} {below : List Frame} {meth : Method} {c : Code} {D : va_G} {A : Nat → Prop} {dT : Nat → ClassId} {a : Nat → Nat} {res : Int32 × MS} {l1 : Int32} {l2 : Int32} {l5 : Int32} (C : Cx p s m args meth c cX12_goerOf 9 RX12 (some .int) D A dT) : ∀ (n : Nat) (l3 : Int32) (l4 : Int32) (l6 : Int32) (z0 : MS), f_X12_goerOf_L27 l1 l2 l5 n l3 l4 l6 z0 = some res → WA p l e ({ frames := 3, cells := 0, slots := 0, locals := 68 } : Room) s m args below meth c (MQ below (QI D dT A ([wM dT a res.2]) res.1) args s 0 0 A) D A 0 0 9 27 ([wM dT a z0]) [(0, .ref (a 0)), (1, .int l1), (2, .int l2), (3, .int l3), (4, .int l4), (5, .int l5), (6, .int l6)] [] := by
  intro n
  induction n with
  | zero => intro l3 l4 l6 z0 hf; cases hf
  | succ n ih =>
    intro l3 l4 l6 z0 hf
    unfold f_X12_goerOf_L27 at hf
    refine wa_iload C 6 29 dX12_goerOf_27 rfl rfl ?_
    refine wa_iload C 5 31 dX12_goerOf_29 rfl rfl ?_
    refine wa_icmp_ge C 97 34 dX12_goerOf_31 rfl rfl (fun c4 => ?_) (fun c4 => ?_)
    · replace hf := ite_t hf c4
      refine wa_iload_n C 3 98 dX12_goerOf_97 rfl rfl ?_
      cases hf
      exact wa_iret C dX12_goerOf_98 rfl rfl
    · replace hf := ite_f hf c4
      refine wa_aload_n C 0 35 dX12_goerOf_34 rfl rfl ?_
      refine wa_iload_n C 1 36 dX12_goerOf_35 rfl rfl ?_
      refine wa_iload_n C 2 37 dX12_goerOf_36 rfl rfl ?_
      refine wa_iload C 6 39 dX12_goerOf_37 rfl rfl ?_
      obtain ⟨q5, hq5, hf⟩ := bind_ex hf
      refine wa_callVAi (b1 := 0) (q1 := 0) (ci := 12) (As := [.int l1, .int l2, .int l6]) C 42 dX12_goerOf_39 rfl kv_X12_310 (c_X12_whoAt hq5) ⟨rfl, rfl⟩ ⟨Nat.le_of_ble_eq_true rfl, Nat.le_of_ble_eq_true rfl⟩ rfl rfl rfl rfl rfl ⟨Nat.zero_le _, Nat.zero_le _⟩ (Nat.le_of_ble_eq_true rfl) ?_
      refine wa_istore (lv' := [(0, .ref (a 0)), (1, .int l1), (2, .int l2), (3, .int l3), (4, .int l4), (5, .int l5), (6, .int l6), (7, .int q5)]) C [1, 2, 3, 4, 5, 6, 7, 0] 44 dX12_goerOf_42 rfl (Nat.le_of_ble_eq_true rfl) rfl ?_
      refine wa_aload_n C 0 45 dX12_goerOf_44 rfl rfl ?_
      refine wa_get C 48 0 0 40 dX12_goerOf_45 rfl iX12 q1489 rfl (Nat.le_of_ble_eq_true rfl) rfl rfl rfl ?_
      refine wa_iload C 7 50 dX12_goerOf_48 rfl rfl ?_
      refine wa_ishr C 51 dX12_goerOf_50 rfl ?_
      refine wa_iconst (v := 1) C 52 dX12_goerOf_51 rfl rfl ?_
      refine wa_iand C 53 dX12_goerOf_52 rfl ?_
      refine wa_iconst (v := 1) C 54 dX12_goerOf_53 rfl rfl ?_
      refine wa_icmp_ne C 60 57 dX12_goerOf_54 rfl rfl (fun c6 => ?_) (fun c6 => ?_)
      · replace hf := ite_f hf c6
        refine wa_aload_n C 0 61 dX12_goerOf_60 rfl rfl ?_
        refine wa_iload_n C 1 62 dX12_goerOf_61 rfl rfl ?_
        refine wa_iload C 7 64 dX12_goerOf_62 rfl rfl ?_
        obtain ⟨q7, hq7, hf⟩ := bind_ex hf
        refine wa_callVAi (b1 := 0) (q1 := 0) (ci := 12) (As := [.int l1, .int q5]) C 67 dX12_goerOf_64 rfl kv_X12_316 (c_X12_picksBy hq7) ⟨rfl, rfl⟩ ⟨Nat.le_of_ble_eq_true rfl, Nat.le_of_ble_eq_true rfl⟩ rfl rfl rfl rfl rfl ⟨Nat.zero_le _, Nat.zero_le _⟩ (Nat.le_of_ble_eq_true rfl) ?_
        refine wa_istore (lv' := [(0, .ref (a 0)), (1, .int l1), (2, .int l2), (3, .int l3), (4, .int l4), (5, .int l5), (6, .int l6), (7, .int q5), (8, .int q7.1)]) C [1, 2, 3, 4, 5, 6, 7, 8, 0] 69 dX12_goerOf_67 rfl (Nat.le_of_ble_eq_true rfl) rfl ?_
        refine wa_iload_n C 3 70 dX12_goerOf_69 rfl rfl ?_
        refine wa_iconst (v := (-1)) C 71 dX12_goerOf_70 rfl rfl ?_
        refine wa_icmp_eq C 84 74 dX12_goerOf_71 rfl rfl (fun c8 => ?_) (fun c8 => ?_)
        · replace hf := ite_t hf c8
          refine wa_iload C 7 86 dX12_goerOf_84 rfl rfl ?_
          refine wa_istore_n (lv' := [(0, .ref (a 0)), (1, .int l1), (2, .int l2), (3, .int q5), (4, .int l4), (5, .int l5), (6, .int l6), (7, .int q5), (8, .int q7.1)]) C [1, 2, 3, 0, 4, 5, 6, 7, 8] 87 dX12_goerOf_86 rfl (Nat.le_of_ble_eq_true rfl) rfl ?_
          refine wa_iload C 8 89 dX12_goerOf_87 rfl rfl ?_
          refine wa_istore (lv' := [(0, .ref (a 0)), (1, .int l1), (2, .int l2), (3, .int q5), (4, .int q7.1), (5, .int l5), (6, .int l6), (7, .int q5), (8, .int q7.1)]) C [1, 2, 3, 4, 0, 5, 6, 7, 8] 91 dX12_goerOf_89 rfl (Nat.le_of_ble_eq_true rfl) rfl ?_
          obtain ⟨x9, ex9, hf⟩ := bnd_ex hf
          refine wa_iinc (v := x9) (lv' := [(0, .ref (a 0)), (1, .int l1), (2, .int l2), (3, .int q5), (4, .int q7.1), (5, .int l5), (6, .int x9), (7, .int q5), (8, .int q7.1)]) C 6 [1, 2, 3, 4, 5, 6, 0, 7, 8] 94 dX12_goerOf_91 rfl rfl (by rw [ex9]; rfl) (Nat.le_of_ble_eq_true rfl) rfl ?_
          refine wa_goto C 27 dX12_goerOf_94 rfl ?_
          refine wa_lv (lv' := [(0, .ref (a 0)), (1, .int l1), (2, .int l2), (3, .int q5), (4, .int q7.1), (5, .int l5), (6, .int x9)]) [0, 1, 2, 3, 4, 5, 6] rfl ?_
          exact ih q5 q7.1 x9 q7.2 hf
        · replace hf := ite_f hf c8
          refine wa_iload C 8 76 dX12_goerOf_74 rfl rfl ?_
          refine wa_iload C 4 78 dX12_goerOf_76 rfl rfl ?_
          refine wa_icmp_ge C 84 81 dX12_goerOf_78 rfl rfl (fun c10 => ?_) (fun c10 => ?_)
          · replace hf := ite_t hf c10
            refine wa_iload C 7 86 dX12_goerOf_84 rfl rfl ?_
            refine wa_istore_n (lv' := [(0, .ref (a 0)), (1, .int l1), (2, .int l2), (3, .int q5), (4, .int l4), (5, .int l5), (6, .int l6), (7, .int q5), (8, .int q7.1)]) C [1, 2, 3, 0, 4, 5, 6, 7, 8] 87 dX12_goerOf_86 rfl (Nat.le_of_ble_eq_true rfl) rfl ?_
            refine wa_iload C 8 89 dX12_goerOf_87 rfl rfl ?_
            refine wa_istore (lv' := [(0, .ref (a 0)), (1, .int l1), (2, .int l2), (3, .int q5), (4, .int q7.1), (5, .int l5), (6, .int l6), (7, .int q5), (8, .int q7.1)]) C [1, 2, 3, 4, 0, 5, 6, 7, 8] 91 dX12_goerOf_89 rfl (Nat.le_of_ble_eq_true rfl) rfl ?_
            obtain ⟨x11, ex11, hf⟩ := bnd_ex hf
            refine wa_iinc (v := x11) (lv' := [(0, .ref (a 0)), (1, .int l1), (2, .int l2), (3, .int q5), (4, .int q7.1), (5, .int l5), (6, .int x11), (7, .int q5), (8, .int q7.1)]) C 6 [1, 2, 3, 4, 5, 6, 0, 7, 8] 94 dX12_goerOf_91 rfl rfl (by rw [ex11]; rfl) (Nat.le_of_ble_eq_true rfl) rfl ?_
            refine wa_goto C 27 dX12_goerOf_94 rfl ?_
            refine wa_lv (lv' := [(0, .ref (a 0)), (1, .int l1), (2, .int l2), (3, .int q5), (4, .int q7.1), (5, .int l5), (6, .int x11)]) [0, 1, 2, 3, 4, 5, 6] rfl ?_
            exact ih q5 q7.1 x11 q7.2 hf
          · replace hf := ite_f hf c10
            refine wa_goto C 91 dX12_goerOf_81 rfl ?_
            obtain ⟨x12, ex12, hf⟩ := bnd_ex hf
            refine wa_iinc (v := x12) (lv' := [(0, .ref (a 0)), (1, .int l1), (2, .int l2), (3, .int l3), (4, .int l4), (5, .int l5), (6, .int x12), (7, .int q5), (8, .int q7.1)]) C 6 [1, 2, 3, 4, 5, 6, 0, 7, 8] 94 dX12_goerOf_91 rfl rfl (by rw [ex12]; rfl) (Nat.le_of_ble_eq_true rfl) rfl ?_
            refine wa_goto C 27 dX12_goerOf_94 rfl ?_
            refine wa_lv (lv' := [(0, .ref (a 0)), (1, .int l1), (2, .int l2), (3, .int l3), (4, .int l4), (5, .int l5), (6, .int x12)]) [0, 1, 2, 3, 4, 5, 6] rfl ?_
            exact ih l3 l4 x12 q7.2 hf
      · replace hf := ite_t hf c6
        refine wa_goto C 91 dX12_goerOf_57 rfl ?_
        obtain ⟨x13, ex13, hf⟩ := bnd_ex hf
        refine wa_iinc (v := x13) (lv' := [(0, .ref (a 0)), (1, .int l1), (2, .int l2), (3, .int l3), (4, .int l4), (5, .int l5), (6, .int x13), (7, .int q5)]) C 6 [1, 2, 3, 4, 5, 6, 0, 7] 94 dX12_goerOf_91 rfl rfl (by rw [ex13]; rfl) (Nat.le_of_ble_eq_true rfl) rfl ?_
        refine wa_goto C 27 dX12_goerOf_94 rfl ?_
        refine wa_lv (lv' := [(0, .ref (a 0)), (1, .int l1), (2, .int l2), (3, .int l3), (4, .int l4), (5, .int l5), (6, .int x13)]) [0, 1, 2, 3, 4, 5, 6] rfl ?_
        exact ih l3 l4 x13 z0 hf
set_option maxRecDepth 20000 in
theorem c_X12_goerOf {l : Launch} {D : va_G} {dT : Nat → ClassId} {a : Nat → Nat} {v : MS} {p0 : Int32} {p1 : Int32} {res : Int32 × MS} (hf : f_X12_goerOf v p0 p1 = some res) : CTi l yX12_goerOf cX12_goerOf 9 (some .int) ({ frames := 3, cells := 0, slots := 0, locals := 68 } : Room) D dT [.ref (a 0), .int p0, .int p1] ([wM dT a v]) ([wM dT a res.2]) res.1 := by
  refine CTi.of (by decide) (Nat.le_of_ble_eq_true rfl) rfl ?_
  intro p e s m args below meth c A C
  unfold f_X12_goerOf at hf
  refine wa_aload_n C 0 1 dX12_goerOf_0 rfl rfl ?_
  refine wa_iload_n C 1 2 dX12_goerOf_1 rfl rfl ?_
  refine wa_iload_n C 2 3 dX12_goerOf_2 rfl rfl ?_
  obtain ⟨q1, hq1, hf⟩ := bind_ex hf
  refine wa_callVAi (b1 := 0) (q1 := 0) (ci := 12) (As := [.int p0, .int p1]) C 6 dX12_goerOf_3 rfl kv_X12_306 (c_X12_staysIn hq1) ⟨rfl, rfl⟩ ⟨Nat.le_of_ble_eq_true rfl, Nat.le_of_ble_eq_true rfl⟩ rfl rfl rfl rfl rfl ⟨Nat.zero_le _, Nat.zero_le _⟩ (Nat.le_of_ble_eq_true rfl) ?_
  refine wa_if_eq C 11 9 dX12_goerOf_6 rfl rfl (fun c2 => ?_) (fun c2 => ?_)
  · replace hf := ite_t hf c2
    refine wa_iconst (v := (-1)) C 12 dX12_goerOf_11 rfl rfl ?_
    refine wa_istore_n (lv' := [(0, .ref (a 0)), (1, .int p0), (2, .int p1), (3, .int (-1 : Int32))]) C [1, 2, 3, 0] 13 dX12_goerOf_12 rfl (Nat.le_of_ble_eq_true rfl) rfl ?_
    refine wa_iconst (v := 0) C 14 dX12_goerOf_13 rfl rfl ?_
    refine wa_istore (lv' := [(0, .ref (a 0)), (1, .int p0), (2, .int p1), (3, .int (-1 : Int32)), (4, .int (0 : Int32))]) C [1, 2, 3, 4, 0] 16 dX12_goerOf_14 rfl (Nat.le_of_ble_eq_true rfl) rfl ?_
    refine wa_aload_n C 0 17 dX12_goerOf_16 rfl rfl ?_
    refine wa_iload_n C 1 18 dX12_goerOf_17 rfl rfl ?_
    refine wa_iload_n C 2 19 dX12_goerOf_18 rfl rfl ?_
    obtain ⟨q3, hq3, hf⟩ := bind_ex hf
    refine wa_callVAi (b1 := 0) (q1 := 0) (ci := 12) (As := [.int p0, .int p1]) C 22 dX12_goerOf_19 rfl kv_X12_297 (c_X12_sizeOf hq3) ⟨rfl, rfl⟩ ⟨Nat.le_of_ble_eq_true rfl, Nat.le_of_ble_eq_true rfl⟩ rfl rfl rfl rfl rfl ⟨Nat.zero_le _, Nat.zero_le _⟩ (Nat.le_of_ble_eq_true rfl) ?_
    refine wa_istore (lv' := [(0, .ref (a 0)), (1, .int p0), (2, .int p1), (3, .int (-1 : Int32)), (4, .int (0 : Int32)), (5, .int q3)]) C [1, 2, 3, 4, 5, 0] 24 dX12_goerOf_22 rfl (Nat.le_of_ble_eq_true rfl) rfl ?_
    refine wa_iconst (v := 0) C 25 dX12_goerOf_24 rfl rfl ?_
    refine wa_istore (lv' := [(0, .ref (a 0)), (1, .int p0), (2, .int p1), (3, .int (-1 : Int32)), (4, .int (0 : Int32)), (5, .int q3), (6, .int (0 : Int32))]) C [1, 2, 3, 4, 5, 6, 0] 27 dX12_goerOf_25 rfl (Nat.le_of_ble_eq_true rfl) rfl ?_
    exact w_X12_goerOf_L27 C FUEL (-1 : Int32) (0 : Int32) (0 : Int32) q1.2 hf
  · replace hf := ite_f hf c2
    refine wa_iconst (v := (-1)) C 10 dX12_goerOf_9 rfl rfl ?_
    cases hf
    exact wa_iret C dX12_goerOf_10 rfl rfl
def f_X12_leaves_L2 (l1 : Int32) (l2 : Int32) : Nat → Int32 → MS → Option (MS)
  | 0, _, _ => none
  | n + 1, l3, z0 => (if (z0.1 1) ≤ l3 then grd (vi ((l1 + (2 : Int32)) + l2) 172) (bnd (z0.1, z0.2.1, uA z0.2.2 10 (((l1 + (2 : Int32)) + l2)).toNatClampNeg (-1 : Int32)) (fun y3 => some (y3))) else grd (vi ((l1 + (2 : Int32)) + l3) 172) (grd (vi ((l1 + (2 : Int32)) + l2) 172) ((if (z0.2.2 10 (((l1 + (2 : Int32)) + l3)).toNatClampNeg) = (z0.2.2 10 (((l1 + (2 : Int32)) + l2)).toNatClampNeg) then grd (vi ((l1 + (14 : Int32)) + l3) 172) (grd (vi ((l1 + (14 : Int32)) + l2) 172) ((if (z0.2.2 10 (((l1 + (14 : Int32)) + l3)).toNatClampNeg) ≤ (z0.2.2 10 (((l1 + (14 : Int32)) + l2)).toNatClampNeg) then bnd (l3 + 1) (fun x11 => f_X12_leaves_L2 l1 l2 n x11 z0) else grd (vi ((l1 + (14 : Int32)) + l3) 172) (grd (vi ((l1 + (14 : Int32)) + l3) 172) (bnd (z0.1, z0.2.1, uA z0.2.2 10 (((l1 + (14 : Int32)) + l3)).toNatClampNeg ((z0.2.2 10 (((l1 + (14 : Int32)) + l3)).toNatClampNeg) - (1 : Int32))) (fun y14 => bnd (l3 + 1) (fun x15 => f_X12_leaves_L2 l1 l2 n x15 y14))))))) else bnd (l3 + 1) (fun x7 => f_X12_leaves_L2 l1 l2 n x7 z0)))))
def f_X12_leaves (v : MS) (p0 : Int32) (p1 : Int32) : Option (MS) := f_X12_leaves_L2 p0 p1 FUEL (0 : Int32) v
set_option maxRecDepth 20000 in
theorem w_X12_leaves_L2 {p : Program} {l : Launch} {e : Env} {s : State} {m : MethodId} {args : Array Value} {below : List Frame} {meth : Method} {c : Code} {D : va_G} {A : Nat → Prop} {dT : Nat → ClassId} {a : Nat → Nat} {res : MS} {l1 : Int32} {l2 : Int32} (C : Cx p s m args meth c cX12_leaves 4 RX12 none D A dT) : ∀ (n : Nat) (l3 : Int32) (z0 : MS), f_X12_leaves_L2 l1 l2 n l3 z0 = some res → WA p l e ({ frames := 0, cells := 0, slots := 0, locals := 0 } : Room) s m args below meth c (MQ below (QV D dT A ([wM dT a res])) args s 0 0 A) D A 0 0 4 2 ([wM dT a z0]) [(0, .ref (a 0)), (1, .int l1), (2, .int l2), (3, .int l3)] [] := by
  intro n
  induction n with
  | zero => intro l3 z0 hf; cases hf
  | succ n ih =>
    intro l3 z0 hf
    unfold f_X12_leaves_L2 at hf
    refine wa_iload_n C 3 3 dX12_leaves_2 rfl rfl ?_
    refine wa_aload_n C 0 4 dX12_leaves_3 rfl rfl ?_
    refine wa_get C 7 0 0 1 dX12_leaves_4 rfl iX12 q1450 rfl (Nat.le_of_ble_eq_true rfl) rfl rfl rfl ?_
    refine wa_icmp_ge C 79 10 dX12_leaves_7 rfl rfl (fun c1 => ?_) (fun c1 => ?_)
    · replace hf := ite_t hf c1
      refine wa_aload_n C 0 80 dX12_leaves_79 rfl rfl ?_
      refine wa_get C 83 0 0 34 dX12_leaves_80 rfl iX12 q1483 rfl (Nat.le_of_ble_eq_true rfl) rfl rfl rfl ?_
      refine wa_iload_n C 1 84 dX12_leaves_83 rfl rfl ?_
      refine wa_iconst (v := 2) C 85 dX12_leaves_84 rfl rfl ?_
      refine wa_iadd C 86 dX12_leaves_85 rfl ?_
      refine wa_iload_n C 2 87 dX12_leaves_86 rfl rfl ?_
      refine wa_iadd C 88 dX12_leaves_87 rfl ?_
      refine wa_iconst (v := (-1)) C 89 dX12_leaves_88 rfl rfl ?_
      obtain ⟨g2, hf⟩ := grd_ex hf
      obtain ⟨y3, ey3, hf⟩ := bnd_ex hf
      refine wa_iast (ws' := [wM dT a y3]) C 90 0 10 dX12_leaves_89 rfl rfl rfl (vi_in g2) (by rw [ey3]; rfl) ?_
      cases hf
      exact wa_vret C dX12_leaves_90 rfl
    · replace hf := ite_f hf c1
      refine wa_aload_n C 0 11 dX12_leaves_10 rfl rfl ?_
      refine wa_get C 14 0 0 34 dX12_leaves_11 rfl iX12 q1483 rfl (Nat.le_of_ble_eq_true rfl) rfl rfl rfl ?_
      refine wa_iload_n C 1 15 dX12_leaves_14 rfl rfl ?_
      refine wa_iconst (v := 2) C 16 dX12_leaves_15 rfl rfl ?_
      refine wa_iadd C 17 dX12_leaves_16 rfl ?_
      refine wa_iload_n C 3 18 dX12_leaves_17 rfl rfl ?_
      refine wa_iadd C 19 dX12_leaves_18 rfl ?_
      obtain ⟨g4, hf⟩ := grd_ex hf
      refine wa_iald C 20 0 10 dX12_leaves_19 rfl rfl rfl (vi_in g4) ?_
      refine wa_aload_n C 0 21 dX12_leaves_20 rfl rfl ?_
      refine wa_get C 24 0 0 34 dX12_leaves_21 rfl iX12 q1483 rfl (Nat.le_of_ble_eq_true rfl) rfl rfl rfl ?_
      refine wa_iload_n C 1 25 dX12_leaves_24 rfl rfl ?_
      refine wa_iconst (v := 2) C 26 dX12_leaves_25 rfl rfl ?_
      refine wa_iadd C 27 dX12_leaves_26 rfl ?_
      refine wa_iload_n C 2 28 dX12_leaves_27 rfl rfl ?_
      refine wa_iadd C 29 dX12_leaves_28 rfl ?_
      obtain ⟨g5, hf⟩ := grd_ex hf
      refine wa_iald C 30 0 10 dX12_leaves_29 rfl rfl rfl (vi_in g5) ?_
      refine wa_icmp_ne C 73 33 dX12_leaves_30 rfl rfl (fun c6 => ?_) (fun c6 => ?_)
      · replace hf := ite_f hf c6
        obtain ⟨x7, ex7, hf⟩ := bnd_ex hf
        refine wa_iinc (v := x7) (lv' := [(0, .ref (a 0)), (1, .int l1), (2, .int l2), (3, .int x7)]) C 3 [1, 2, 3, 0] 76 dX12_leaves_73 rfl rfl (by rw [ex7]; rfl) (Nat.le_of_ble_eq_true rfl) rfl ?_
        refine wa_goto C 2 dX12_leaves_76 rfl ?_
        exact ih x7 z0 hf
      · replace hf := ite_t hf c6
        refine wa_aload_n C 0 34 dX12_leaves_33 rfl rfl ?_
        refine wa_get C 37 0 0 34 dX12_leaves_34 rfl iX12 q1483 rfl (Nat.le_of_ble_eq_true rfl) rfl rfl rfl ?_
        refine wa_iload_n C 1 38 dX12_leaves_37 rfl rfl ?_
        refine wa_bipush (v := 14) C 40 dX12_leaves_38 rfl rfl ?_
        refine wa_iadd C 41 dX12_leaves_40 rfl ?_
        refine wa_iload_n C 3 42 dX12_leaves_41 rfl rfl ?_
        refine wa_iadd C 43 dX12_leaves_42 rfl ?_
        obtain ⟨g8, hf⟩ := grd_ex hf
        refine wa_iald C 44 0 10 dX12_leaves_43 rfl rfl rfl (vi_in g8) ?_
        refine wa_aload_n C 0 45 dX12_leaves_44 rfl rfl ?_
        refine wa_get C 48 0 0 34 dX12_leaves_45 rfl iX12 q1483 rfl (Nat.le_of_ble_eq_true rfl) rfl rfl rfl ?_
        refine wa_iload_n C 1 49 dX12_leaves_48 rfl rfl ?_
        refine wa_bipush (v := 14) C 51 dX12_leaves_49 rfl rfl ?_
        refine wa_iadd C 52 dX12_leaves_51 rfl ?_
        refine wa_iload_n C 2 53 dX12_leaves_52 rfl rfl ?_
        refine wa_iadd C 54 dX12_leaves_53 rfl ?_
        obtain ⟨g9, hf⟩ := grd_ex hf
        refine wa_iald C 55 0 10 dX12_leaves_54 rfl rfl rfl (vi_in g9) ?_
        refine wa_icmp_le C 73 58 dX12_leaves_55 rfl rfl (fun c10 => ?_) (fun c10 => ?_)
        · replace hf := ite_t hf c10
          obtain ⟨x11, ex11, hf⟩ := bnd_ex hf
          refine wa_iinc (v := x11) (lv' := [(0, .ref (a 0)), (1, .int l1), (2, .int l2), (3, .int x11)]) C 3 [1, 2, 3, 0] 76 dX12_leaves_73 rfl rfl (by rw [ex11]; rfl) (Nat.le_of_ble_eq_true rfl) rfl ?_
          refine wa_goto C 2 dX12_leaves_76 rfl ?_
          exact ih x11 z0 hf
        · replace hf := ite_f hf c10
          refine wa_aload_n C 0 59 dX12_leaves_58 rfl rfl ?_
          refine wa_get C 62 0 0 34 dX12_leaves_59 rfl iX12 q1483 rfl (Nat.le_of_ble_eq_true rfl) rfl rfl rfl ?_
          refine wa_iload_n C 1 63 dX12_leaves_62 rfl rfl ?_
          refine wa_bipush (v := 14) C 65 dX12_leaves_63 rfl rfl ?_
          refine wa_iadd C 66 dX12_leaves_65 rfl ?_
          refine wa_iload_n C 3 67 dX12_leaves_66 rfl rfl ?_
          refine wa_iadd C 68 dX12_leaves_67 rfl ?_
          refine wa_dup2 C 69 dX12_leaves_68 rfl rfl rfl ?_
          obtain ⟨g12, hf⟩ := grd_ex hf
          refine wa_iald C 70 0 10 dX12_leaves_69 rfl rfl rfl (vi_in g12) ?_
          refine wa_iconst (v := 1) C 71 dX12_leaves_70 rfl rfl ?_
          refine wa_isub C 72 dX12_leaves_71 rfl ?_
          obtain ⟨g13, hf⟩ := grd_ex hf
          obtain ⟨y14, ey14, hf⟩ := bnd_ex hf
          refine wa_iast (ws' := [wM dT a y14]) C 73 0 10 dX12_leaves_72 rfl rfl rfl (vi_in g13) (by rw [ey14]; rfl) ?_
          obtain ⟨x15, ex15, hf⟩ := bnd_ex hf
          refine wa_iinc (v := x15) (lv' := [(0, .ref (a 0)), (1, .int l1), (2, .int l2), (3, .int x15)]) C 3 [1, 2, 3, 0] 76 dX12_leaves_73 rfl rfl (by rw [ex15]; rfl) (Nat.le_of_ble_eq_true rfl) rfl ?_
          refine wa_goto C 2 dX12_leaves_76 rfl ?_
          exact ih x15 y14 hf
set_option maxRecDepth 20000 in
theorem c_X12_leaves {l : Launch} {D : va_G} {dT : Nat → ClassId} {a : Nat → Nat} {v : MS} {p0 : Int32} {p1 : Int32} {res : MS} (hf : f_X12_leaves v p0 p1 = some res) : CTv l yX12_leaves cX12_leaves 4 none ({ frames := 0, cells := 0, slots := 0, locals := 0 } : Room) D dT [.ref (a 0), .int p0, .int p1] ([wM dT a v]) ([wM dT a res]) := by
  refine CTv.of (by decide) (Nat.le_of_ble_eq_true rfl) rfl ?_
  intro p e s m args below meth c A C
  unfold f_X12_leaves at hf
  refine wa_iconst (v := 0) C 1 dX12_leaves_0 rfl rfl ?_
  refine wa_istore_n (lv' := [(0, .ref (a 0)), (1, .int p0), (2, .int p1), (3, .int (0 : Int32))]) C [1, 2, 3, 0] 2 dX12_leaves_1 rfl (Nat.le_of_ble_eq_true rfl) rfl ?_
  exact w_X12_leaves_L2 C FUEL (0 : Int32) v hf
def f_X12_falls0_L35 (k4 : Int32 → Int32 → MS → Option (MS)) (l1 : Int32) (l2 : Int32) (l3 : Int32) (l4 : Int32) : Nat → Int32 → MS → Option (MS)
  | 0, _, _ => none
  | n + 1, l5, z0 => (if (z0.1 1) ≤ l5 then grd (vi ((l1 + (62 : Int32)) + l3) 172) (grd (vi ((l1 + (62 : Int32)) + l2) 172) (bnd (z0.1, z0.2.1, uA z0.2.2 10 (((l1 + (62 : Int32)) + l2)).toNatClampNeg (z0.2.2 10 (((l1 + (62 : Int32)) + l3)).toNatClampNeg)) (fun y10 => grd (vi ((l1 + (74 : Int32)) + l3) 172) (grd (vi ((l1 + (74 : Int32)) + l2) 172) (bnd (y10.1, y10.2.1, uA y10.2.2 10 (((l1 + (74 : Int32)) + l2)).toNatClampNeg (y10.2.2 10 (((l1 + (74 : Int32)) + l3)).toNatClampNeg)) (fun y13 => bnd (l2 + 1) (fun x14 => bnd (l3 + 1) (fun x15 => k4 x14 x15 y13)))))))) else (if ((l4 >>> (l5 &&& 31)) &&& (1 : Int32)) = (1 : Int32) then grd (vi ((l1 + (2 : Int32)) + l5) 172) (bnd (z0.1, z0.2.1, uA z0.2.2 10 (((l1 + (2 : Int32)) + l5)).toNatClampNeg l2) (fun y19 => bnd (l5 + 1) (fun x20 => f_X12_falls0_L35 k4 l1 l2 l3 l4 n x20 y19))) else bnd (l5 + 1) (fun x17 => f_X12_falls0_L35 k4 l1 l2 l3 l4 n x17 z0)))
def f_X12_falls0_L4 (l1 : Int32) : Nat → Int32 → Int32 → MS → Option (MS)
  | 0, _, _, _ => none
  | n + 1, l2, l3, z0 => grd (vi (l1 + (1 : Int32)) 172) ((if (z0.2.2 10 ((l1 + (1 : Int32))).toNatClampNeg) ≤ l3 then grd (vi (l1 + (1 : Int32)) 172) (bnd (z0.1, z0.2.1, uA z0.2.2 10 ((l1 + (1 : Int32))).toNatClampNeg l2) (fun y4 => some (y4))) else (f_X12_inHouse z0 l1 l3).bind (fun q5 => (if q5 = 0 then bnd (l3 + 1) (fun x21 => f_X12_falls0_L4 l1 n l2 x21 z0) else f_X12_falls0_L35 (f_X12_falls0_L4 l1 n) l1 l2 l3 q5 FUEL (0 : Int32) z0))))
def f_X12_falls0 (v : MS) (p0 : Int32) : Option (MS) := f_X12_falls0_L4 p0 FUEL (0 : Int32) (0 : Int32) v
set_option maxRecDepth 20000 in
theorem w_X12_falls0_L35 {p : Program} {l : Launch} {e : Env} {s : State} {m : MethodId} {args : Array Value} {below : List Frame} {meth : Method} {c : Code} {D : va_G} {A : Nat → Prop} {dT : Nat → ClassId} {a : Nat → Nat} {res : MS} {l1 : Int32} {l2 : Int32} {l3 : Int32} {l4 : Int32} (C : Cx p s m args meth c cX12_falls0 6 RX12 none D A dT) {k4 : Int32 → Int32 → MS → Option (MS)} (hk4 : ∀ (l2 : Int32) (l3 : Int32) (z0 : MS), k4 l2 l3 z0 = some res → WA p l e ({ frames := 1, cells := 0, slots := 0, locals := 24 } : Room) s m args below meth c (MQ below (QV D dT A ([wM dT a res])) args s 0 0 A) D A 0 0 6 4 ([wM dT a z0]) [(0, .ref (a 0)), (1, .int l1), (2, .int l2), (3, .int l3)] []) : ∀ (n : Nat) (l5 : Int32) (z0 : MS), f_X12_falls0_L35 k4 l1 l2 l3 l4 n l5 z0 = some res → WA p l e ({ frames := 1, cells := 0, slots := 0, locals := 24 } : Room) s m args below meth c (MQ below (QV D dT A ([wM dT a res])) args s 0 0 A) D A 0 0 6 35 ([wM dT a z0]) [(0, .ref (a 0)), (1, .int l1), (2, .int l2), (3, .int l3), (4, .int l4), (5, .int l5)] [] := by
  intro n
  induction n with
  | zero => intro l5 z0 hf; cases hf
  | succ n ih =>
    intro l5 z0 hf
    unfold f_X12_falls0_L35 at hf
    refine wa_iload C 5 37 dX12_falls0_35 rfl rfl ?_
    refine wa_aload_n C 0 38 dX12_falls0_37 rfl rfl ?_
    refine wa_get C 41 0 0 1 dX12_falls0_38 rfl iX12 q1450 rfl (Nat.le_of_ble_eq_true rfl) rfl rfl rfl ?_
    refine wa_icmp_ge C 73 44 dX12_falls0_41 rfl rfl (fun c7 => ?_) (fun c7 => ?_)
    · replace hf := ite_t hf c7
      refine wa_aload_n C 0 74 dX12_falls0_73 rfl rfl ?_
      refine wa_get C 77 0 0 34 dX12_falls0_74 rfl iX12 q1483 rfl (Nat.le_of_ble_eq_true rfl) rfl rfl rfl ?_
      refine wa_iload_n C 1 78 dX12_falls0_77 rfl rfl ?_
      refine wa_bipush (v := 62) C 80 dX12_falls0_78 rfl rfl ?_
      refine wa_iadd C 81 dX12_falls0_80 rfl ?_
      refine wa_iload_n C 2 82 dX12_falls0_81 rfl rfl ?_
      refine wa_iadd C 83 dX12_falls0_82 rfl ?_
      refine wa_aload_n C 0 84 dX12_falls0_83 rfl rfl ?_
      refine wa_get C 87 0 0 34 dX12_falls0_84 rfl iX12 q1483 rfl (Nat.le_of_ble_eq_true rfl) rfl rfl rfl ?_
      refine wa_iload_n C 1 88 dX12_falls0_87 rfl rfl ?_
      refine wa_bipush (v := 62) C 90 dX12_falls0_88 rfl rfl ?_
      refine wa_iadd C 91 dX12_falls0_90 rfl ?_
      refine wa_iload_n C 3 92 dX12_falls0_91 rfl rfl ?_
      refine wa_iadd C 93 dX12_falls0_92 rfl ?_
      obtain ⟨g8, hf⟩ := grd_ex hf
      refine wa_iald C 94 0 10 dX12_falls0_93 rfl rfl rfl (vi_in g8) ?_
      obtain ⟨g9, hf⟩ := grd_ex hf
      obtain ⟨y10, ey10, hf⟩ := bnd_ex hf
      refine wa_iast (ws' := [wM dT a y10]) C 95 0 10 dX12_falls0_94 rfl rfl rfl (vi_in g9) (by rw [ey10]; rfl) ?_
      refine wa_aload_n C 0 96 dX12_falls0_95 rfl rfl ?_
      refine wa_get C 99 0 0 34 dX12_falls0_96 rfl iX12 q1483 rfl (Nat.le_of_ble_eq_true rfl) rfl rfl rfl ?_
      refine wa_iload_n C 1 100 dX12_falls0_99 rfl rfl ?_
      refine wa_bipush (v := 74) C 102 dX12_falls0_100 rfl rfl ?_
      refine wa_iadd C 103 dX12_falls0_102 rfl ?_
      refine wa_iload_n C 2 104 dX12_falls0_103 rfl rfl ?_
      refine wa_iadd C 105 dX12_falls0_104 rfl ?_
      refine wa_aload_n C 0 106 dX12_falls0_105 rfl rfl ?_
      refine wa_get C 109 0 0 34 dX12_falls0_106 rfl iX12 q1483 rfl (Nat.le_of_ble_eq_true rfl) rfl rfl rfl ?_
      refine wa_iload_n C 1 110 dX12_falls0_109 rfl rfl ?_
      refine wa_bipush (v := 74) C 112 dX12_falls0_110 rfl rfl ?_
      refine wa_iadd C 113 dX12_falls0_112 rfl ?_
      refine wa_iload_n C 3 114 dX12_falls0_113 rfl rfl ?_
      refine wa_iadd C 115 dX12_falls0_114 rfl ?_
      obtain ⟨g11, hf⟩ := grd_ex hf
      refine wa_iald C 116 0 10 dX12_falls0_115 rfl rfl rfl (vi_in g11) ?_
      obtain ⟨g12, hf⟩ := grd_ex hf
      obtain ⟨y13, ey13, hf⟩ := bnd_ex hf
      refine wa_iast (ws' := [wM dT a y13]) C 117 0 10 dX12_falls0_116 rfl rfl rfl (vi_in g12) (by rw [ey13]; rfl) ?_
      obtain ⟨x14, ex14, hf⟩ := bnd_ex hf
      refine wa_iinc (v := x14) (lv' := [(0, .ref (a 0)), (1, .int l1), (2, .int x14), (3, .int l3), (4, .int l4), (5, .int l5)]) C 2 [1, 2, 0, 3, 4, 5] 120 dX12_falls0_117 rfl rfl (by rw [ex14]; rfl) (Nat.le_of_ble_eq_true rfl) rfl ?_
      obtain ⟨x15, ex15, hf⟩ := bnd_ex hf
      refine wa_iinc (v := x15) (lv' := [(0, .ref (a 0)), (1, .int l1), (2, .int x14), (3, .int x15), (4, .int l4), (5, .int l5)]) C 3 [1, 2, 3, 0, 4, 5] 123 dX12_falls0_120 rfl rfl (by rw [ex15]; rfl) (Nat.le_of_ble_eq_true rfl) rfl ?_
      refine wa_goto C 4 dX12_falls0_123 rfl ?_
      refine wa_lv (lv' := [(0, .ref (a 0)), (1, .int l1), (2, .int x14), (3, .int x15)]) [0, 1, 2, 3] rfl ?_
      exact hk4 x14 x15 y13 hf
    · replace hf := ite_f hf c7
      refine wa_iload C 4 46 dX12_falls0_44 rfl rfl ?_
      refine wa_iload C 5 48 dX12_falls0_46 rfl rfl ?_
      refine wa_ishr C 49 dX12_falls0_48 rfl ?_
      refine wa_iconst (v := 1) C 50 dX12_falls0_49 rfl rfl ?_
      refine wa_iand C 51 dX12_falls0_50 rfl ?_
      refine wa_iconst (v := 1) C 52 dX12_falls0_51 rfl rfl ?_
      refine wa_icmp_ne C 67 55 dX12_falls0_52 rfl rfl (fun c16 => ?_) (fun c16 => ?_)
      · replace hf := ite_f hf c16
        obtain ⟨x17, ex17, hf⟩ := bnd_ex hf
        refine wa_iinc (v := x17) (lv' := [(0, .ref (a 0)), (1, .int l1), (2, .int l2), (3, .int l3), (4, .int l4), (5, .int x17)]) C 5 [1, 2, 3, 4, 5, 0] 70 dX12_falls0_67 rfl rfl (by rw [ex17]; rfl) (Nat.le_of_ble_eq_true rfl) rfl ?_
        refine wa_goto C 35 dX12_falls0_70 rfl ?_
        exact ih x17 z0 hf
      · replace hf := ite_t hf c16
        refine wa_aload_n C 0 56 dX12_falls0_55 rfl rfl ?_
        refine wa_get C 59 0 0 34 dX12_falls0_56 rfl iX12 q1483 rfl (Nat.le_of_ble_eq_true rfl) rfl rfl rfl ?_
        refine wa_iload_n C 1 60 dX12_falls0_59 rfl rfl ?_
        refine wa_iconst (v := 2) C 61 dX12_falls0_60 rfl rfl ?_
        refine wa_iadd C 62 dX12_falls0_61 rfl ?_
        refine wa_iload C 5 64 dX12_falls0_62 rfl rfl ?_
        refine wa_iadd C 65 dX12_falls0_64 rfl ?_
        refine wa_iload_n C 2 66 dX12_falls0_65 rfl rfl ?_
        obtain ⟨g18, hf⟩ := grd_ex hf
        obtain ⟨y19, ey19, hf⟩ := bnd_ex hf
        refine wa_iast (ws' := [wM dT a y19]) C 67 0 10 dX12_falls0_66 rfl rfl rfl (vi_in g18) (by rw [ey19]; rfl) ?_
        obtain ⟨x20, ex20, hf⟩ := bnd_ex hf
        refine wa_iinc (v := x20) (lv' := [(0, .ref (a 0)), (1, .int l1), (2, .int l2), (3, .int l3), (4, .int l4), (5, .int x20)]) C 5 [1, 2, 3, 4, 5, 0] 70 dX12_falls0_67 rfl rfl (by rw [ex20]; rfl) (Nat.le_of_ble_eq_true rfl) rfl ?_
        refine wa_goto C 35 dX12_falls0_70 rfl ?_
        exact ih x20 y19 hf
set_option maxRecDepth 20000 in
theorem w_X12_falls0_L4 {p : Program} {l : Launch} {e : Env} {s : State} {m : MethodId} {args : Array Value} {below : List Frame} {meth : Method} {c : Code} {D : va_G} {A : Nat → Prop} {dT : Nat → ClassId} {a : Nat → Nat} {res : MS} {l1 : Int32} (C : Cx p s m args meth c cX12_falls0 6 RX12 none D A dT) : ∀ (n : Nat) (l2 : Int32) (l3 : Int32) (z0 : MS), f_X12_falls0_L4 l1 n l2 l3 z0 = some res → WA p l e ({ frames := 1, cells := 0, slots := 0, locals := 24 } : Room) s m args below meth c (MQ below (QV D dT A ([wM dT a res])) args s 0 0 A) D A 0 0 6 4 ([wM dT a z0]) [(0, .ref (a 0)), (1, .int l1), (2, .int l2), (3, .int l3)] [] := by
  intro n
  induction n with
  | zero => intro l2 l3 z0 hf; cases hf
  | succ n ih =>
    intro l2 l3 z0 hf
    unfold f_X12_falls0_L4 at hf
    refine wa_iload_n C 3 5 dX12_falls0_4 rfl rfl ?_
    refine wa_aload_n C 0 6 dX12_falls0_5 rfl rfl ?_
    refine wa_get C 9 0 0 34 dX12_falls0_6 rfl iX12 q1483 rfl (Nat.le_of_ble_eq_true rfl) rfl rfl rfl ?_
    refine wa_iload_n C 1 10 dX12_falls0_9 rfl rfl ?_
    refine wa_iconst (v := 1) C 11 dX12_falls0_10 rfl rfl ?_
    refine wa_iadd C 12 dX12_falls0_11 rfl ?_
    obtain ⟨g1, hf⟩ := grd_ex hf
    refine wa_iald C 13 0 10 dX12_falls0_12 rfl rfl rfl (vi_in g1) ?_
    refine wa_icmp_ge C 126 16 dX12_falls0_13 rfl rfl (fun c2 => ?_) (fun c2 => ?_)
    · replace hf := ite_t hf c2
      refine wa_aload_n C 0 127 dX12_falls0_126 rfl rfl ?_
      refine wa_get C 130 0 0 34 dX12_falls0_127 rfl iX12 q1483 rfl (Nat.le_of_ble_eq_true rfl) rfl rfl rfl ?_
      refine wa_iload_n C 1 131 dX12_falls0_130 rfl rfl ?_
      refine wa_iconst (v := 1) C 132 dX12_falls0_131 rfl rfl ?_
      refine wa_iadd C 133 dX12_falls0_132 rfl ?_
      refine wa_iload_n C 2 134 dX12_falls0_133 rfl rfl ?_
      obtain ⟨g3, hf⟩ := grd_ex hf
      obtain ⟨y4, ey4, hf⟩ := bnd_ex hf
      refine wa_iast (ws' := [wM dT a y4]) C 135 0 10 dX12_falls0_134 rfl rfl rfl (vi_in g3) (by rw [ey4]; rfl) ?_
      cases hf
      exact wa_vret C dX12_falls0_135 rfl
    · replace hf := ite_f hf c2
      refine wa_aload_n C 0 17 dX12_falls0_16 rfl rfl ?_
      refine wa_iload_n C 1 18 dX12_falls0_17 rfl rfl ?_
      refine wa_iload_n C 3 19 dX12_falls0_18 rfl rfl ?_
      obtain ⟨q5, hq5, hf⟩ := bind_ex hf
      refine wa_callVAi (b1 := 0) (q1 := 0) (ci := 12) (As := [.int l1, .int l3]) C 22 dX12_falls0_19 rfl kv_X12_288 (c_X12_inHouse hq5) ⟨rfl, rfl⟩ ⟨Nat.le_of_ble_eq_true rfl, Nat.le_of_ble_eq_true rfl⟩ rfl rfl rfl rfl rfl ⟨Nat.zero_le _, Nat.zero_le _⟩ (Nat.le_of_ble_eq_true rfl) ?_
      refine wa_istore (lv' := [(0, .ref (a 0)), (1, .int l1), (2, .int l2), (3, .int l3), (4, .int q5)]) C [1, 2, 3, 4, 0] 24 dX12_falls0_22 rfl (Nat.le_of_ble_eq_true rfl) rfl ?_
      refine wa_iload C 4 26 dX12_falls0_24 rfl rfl ?_
      refine wa_if_ne C 32 29 dX12_falls0_26 rfl rfl (fun c6 => ?_) (fun c6 => ?_)
      · replace hf := ite_f hf c6
        refine wa_iconst (v := 0) C 33 dX12_falls0_32 rfl rfl ?_
        refine wa_istore (lv' := [(0, .ref (a 0)), (1, .int l1), (2, .int l2), (3, .int l3), (4, .int q5), (5, .int (0 : Int32))]) C [1, 2, 3, 4, 5, 0] 35 dX12_falls0_33 rfl (Nat.le_of_ble_eq_true rfl) rfl ?_
        exact w_X12_falls0_L35 C ih FUEL (0 : Int32) z0 hf
      · replace hf := ite_t hf c6
        refine wa_goto C 120 dX12_falls0_29 rfl ?_
        obtain ⟨x21, ex21, hf⟩ := bnd_ex hf
        refine wa_iinc (v := x21) (lv' := [(0, .ref (a 0)), (1, .int l1), (2, .int l2), (3, .int x21), (4, .int q5)]) C 3 [1, 2, 3, 0, 4] 123 dX12_falls0_120 rfl rfl (by rw [ex21]; rfl) (Nat.le_of_ble_eq_true rfl) rfl ?_
        refine wa_goto C 4 dX12_falls0_123 rfl ?_
        refine wa_lv (lv' := [(0, .ref (a 0)), (1, .int l1), (2, .int l2), (3, .int x21)]) [0, 1, 2, 3] rfl ?_
        exact ih l2 x21 z0 hf
set_option maxRecDepth 20000 in
theorem c_X12_falls0 {l : Launch} {D : va_G} {dT : Nat → ClassId} {a : Nat → Nat} {v : MS} {p0 : Int32} {res : MS} (hf : f_X12_falls0 v p0 = some res) : CTv l yX12_falls0 cX12_falls0 6 none ({ frames := 1, cells := 0, slots := 0, locals := 24 } : Room) D dT [.ref (a 0), .int p0] ([wM dT a v]) ([wM dT a res]) := by
  refine CTv.of (by decide) (Nat.le_of_ble_eq_true rfl) rfl ?_
  intro p e s m args below meth c A C
  unfold f_X12_falls0 at hf
  refine wa_iconst (v := 0) C 1 dX12_falls0_0 rfl rfl ?_
  refine wa_istore_n (lv' := [(0, .ref (a 0)), (1, .int p0), (2, .int (0 : Int32))]) C [1, 2, 0] 2 dX12_falls0_1 rfl (Nat.le_of_ble_eq_true rfl) rfl ?_
  refine wa_iconst (v := 0) C 3 dX12_falls0_2 rfl rfl ?_
  refine wa_istore_n (lv' := [(0, .ref (a 0)), (1, .int p0), (2, .int (0 : Int32)), (3, .int (0 : Int32))]) C [1, 2, 3, 0] 4 dX12_falls0_3 rfl (Nat.le_of_ble_eq_true rfl) rfl ?_
  exact w_X12_falls0_L4 C FUEL (0 : Int32) (0 : Int32) v hf
def f_X12_founds (v : MS) (p0 : Int32) : Option (MS) := grd (vi (p0 + (1 : Int32)) 172) (grd (vi ((p0 + (62 : Int32)) + (v.2.2 10 ((p0 + (1 : Int32))).toNatClampNeg)) 172) (bnd (v.1, v.2.1, uA v.2.2 10 (((p0 + (62 : Int32)) + (v.2.2 10 ((p0 + (1 : Int32))).toNatClampNeg))).toNatClampNeg (0 : Int32)) (fun y3 => grd (vi (p0 + (1 : Int32)) 172) (grd (vi ((p0 + (74 : Int32)) + (y3.2.2 10 ((p0 + (1 : Int32))).toNatClampNeg)) 172) (bnd (y3.1, y3.2.1, uA y3.2.2 10 (((p0 + (74 : Int32)) + (y3.2.2 10 ((p0 + (1 : Int32))).toNatClampNeg))).toNatClampNeg (-1 : Int32)) (fun y6 => grd (vi (p0 + (1 : Int32)) 172) (grd (vi (p0 + (1 : Int32)) 172) (bnd (y6.1, y6.2.1, uA y6.2.2 10 ((p0 + (1 : Int32))).toNatClampNeg ((y6.2.2 10 ((p0 + (1 : Int32))).toNatClampNeg) + (1 : Int32))) (fun y9 => some (y9))))))))))
set_option maxRecDepth 20000 in
theorem c_X12_founds {l : Launch} {D : va_G} {dT : Nat → ClassId} {a : Nat → Nat} {v : MS} {p0 : Int32} {res : MS} (hf : f_X12_founds v p0 = some res) : CTv l yX12_founds cX12_founds 2 none ({ frames := 0, cells := 0, slots := 0, locals := 0 } : Room) D dT [.ref (a 0), .int p0] ([wM dT a v]) ([wM dT a res]) := by
  refine CTv.of (by decide) (Nat.le_of_ble_eq_true rfl) rfl ?_
  intro p e s m args below meth c A C
  unfold f_X12_founds at hf
  refine wa_aload_n C 0 1 dX12_founds_0 rfl rfl ?_
  refine wa_get C 4 0 0 34 dX12_founds_1 rfl iX12 q1483 rfl (Nat.le_of_ble_eq_true rfl) rfl rfl rfl ?_
  refine wa_iload_n C 1 5 dX12_founds_4 rfl rfl ?_
  refine wa_bipush (v := 62) C 7 dX12_founds_5 rfl rfl ?_
  refine wa_iadd C 8 dX12_founds_7 rfl ?_
  refine wa_aload_n C 0 9 dX12_founds_8 rfl rfl ?_
  refine wa_get C 12 0 0 34 dX12_founds_9 rfl iX12 q1483 rfl (Nat.le_of_ble_eq_true rfl) rfl rfl rfl ?_
  refine wa_iload_n C 1 13 dX12_founds_12 rfl rfl ?_
  refine wa_iconst (v := 1) C 14 dX12_founds_13 rfl rfl ?_
  refine wa_iadd C 15 dX12_founds_14 rfl ?_
  obtain ⟨g1, hf⟩ := grd_ex hf
  refine wa_iald C 16 0 10 dX12_founds_15 rfl rfl rfl (vi_in g1) ?_
  refine wa_iadd C 17 dX12_founds_16 rfl ?_
  refine wa_iconst (v := 0) C 18 dX12_founds_17 rfl rfl ?_
  obtain ⟨g2, hf⟩ := grd_ex hf
  obtain ⟨y3, ey3, hf⟩ := bnd_ex hf
  refine wa_iast (ws' := [wM dT a y3]) C 19 0 10 dX12_founds_18 rfl rfl rfl (vi_in g2) (by rw [ey3]; rfl) ?_
  refine wa_aload_n C 0 20 dX12_founds_19 rfl rfl ?_
  refine wa_get C 23 0 0 34 dX12_founds_20 rfl iX12 q1483 rfl (Nat.le_of_ble_eq_true rfl) rfl rfl rfl ?_
  refine wa_iload_n C 1 24 dX12_founds_23 rfl rfl ?_
  refine wa_bipush (v := 74) C 26 dX12_founds_24 rfl rfl ?_
  refine wa_iadd C 27 dX12_founds_26 rfl ?_
  refine wa_aload_n C 0 28 dX12_founds_27 rfl rfl ?_
  refine wa_get C 31 0 0 34 dX12_founds_28 rfl iX12 q1483 rfl (Nat.le_of_ble_eq_true rfl) rfl rfl rfl ?_
  refine wa_iload_n C 1 32 dX12_founds_31 rfl rfl ?_
  refine wa_iconst (v := 1) C 33 dX12_founds_32 rfl rfl ?_
  refine wa_iadd C 34 dX12_founds_33 rfl ?_
  obtain ⟨g4, hf⟩ := grd_ex hf
  refine wa_iald C 35 0 10 dX12_founds_34 rfl rfl rfl (vi_in g4) ?_
  refine wa_iadd C 36 dX12_founds_35 rfl ?_
  refine wa_iconst (v := (-1)) C 37 dX12_founds_36 rfl rfl ?_
  obtain ⟨g5, hf⟩ := grd_ex hf
  obtain ⟨y6, ey6, hf⟩ := bnd_ex hf
  refine wa_iast (ws' := [wM dT a y6]) C 38 0 10 dX12_founds_37 rfl rfl rfl (vi_in g5) (by rw [ey6]; rfl) ?_
  refine wa_aload_n C 0 39 dX12_founds_38 rfl rfl ?_
  refine wa_get C 42 0 0 34 dX12_founds_39 rfl iX12 q1483 rfl (Nat.le_of_ble_eq_true rfl) rfl rfl rfl ?_
  refine wa_iload_n C 1 43 dX12_founds_42 rfl rfl ?_
  refine wa_iconst (v := 1) C 44 dX12_founds_43 rfl rfl ?_
  refine wa_iadd C 45 dX12_founds_44 rfl ?_
  refine wa_dup2 C 46 dX12_founds_45 rfl rfl rfl ?_
  obtain ⟨g7, hf⟩ := grd_ex hf
  refine wa_iald C 47 0 10 dX12_founds_46 rfl rfl rfl (vi_in g7) ?_
  refine wa_iconst (v := 1) C 48 dX12_founds_47 rfl rfl ?_
  refine wa_iadd C 49 dX12_founds_48 rfl ?_
  obtain ⟨g8, hf⟩ := grd_ex hf
  obtain ⟨y9, ey9, hf⟩ := bnd_ex hf
  refine wa_iast (ws' := [wM dT a y9]) C 50 0 10 dX12_founds_49 rfl rfl rfl (vi_in g8) (by rw [ey9]; rfl) ?_
  cases hf
  exact wa_vret C dX12_founds_50 rfl
theorem kv_X12_319 : KV RX12 319 yX12_goerOf cX12_goerOf 9 (some .int) 2 := KV.mk q1837 q1839 qs85 q13 q1840 ⟨by decide, by decide, by decide +kernel⟩
theorem kv_X12_325 : KV RX12 325 yX12_leaves cX12_leaves 4 none 2 := KV.mk q1913 q1915 qs99 q13 q1916 ⟨by decide, by decide, by decide +kernel⟩
theorem kv_X12_328 : KV RX12 328 yX12_falls0 cX12_falls0 6 none 1 := KV.mk q1917 q1919 qs100 q13 q1920 ⟨by decide, by decide, by decide +kernel⟩
theorem kv_X12_331 : KV RX12 331 yX12_founds cX12_founds 2 none 1 := KV.mk q1921 q1923 qs101 q13 q1924 ⟨by decide, by decide, by decide +kernel⟩
def f_X12_eveningGoes_L215 (l1 : Int32) (l2 : Int32) : Nat → Int32 → Int32 → MS → Option (MS)
  | 0, _, _, _ => none
  | n + 1, l3, l4, z0 => (if l2 ≤ l4 then (if l3 ≤ 0 then grd (vi (l1 + (0 : Int32)) 172) (grd (vi (l1 + (0 : Int32)) 172) (bnd (z0.1, z0.2.1, uA z0.2.2 10 ((l1 + (0 : Int32))).toNatClampNeg ((z0.2.2 10 ((l1 + (0 : Int32))).toNatClampNeg) + (1 : Int32))) (fun y13 => some (y13)))) else (f_X12_founds z0 l1).bind (fun q14 => grd (vi (l1 + (0 : Int32)) 172) (grd (vi (l1 + (0 : Int32)) 172) (bnd (q14.1, q14.2.1, uA q14.2.2 10 ((l1 + (0 : Int32))).toNatClampNeg ((q14.2.2 10 ((l1 + (0 : Int32))).toNatClampNeg) + (1 : Int32))) (fun y17 => some (y17)))))) else grd (vi l4 12) ((if (z0.2.2 14 (l4).toNatClampNeg) = (-1 : Int32) then bnd (l4 + 1) (fun x29 => f_X12_eveningGoes_L215 l1 l2 n l3 x29 z0) else grd (vi l4 12) (grd (vi (l1 + (1 : Int32)) 172) (grd (vi ((l1 + (2 : Int32)) + (z0.2.2 14 (l4).toNatClampNeg)) 172) (bnd (z0.1, z0.2.1, uA z0.2.2 10 (((l1 + (2 : Int32)) + (z0.2.2 14 (l4).toNatClampNeg))).toNatClampNeg (z0.2.2 10 ((l1 + (1 : Int32))).toNatClampNeg)) (fun y23 => grd (vi l4 12) (grd (vi ((l1 + (14 : Int32)) + (y23.2.2 14 (l4).toNatClampNeg)) 172) (bnd (y23.1, y23.2.1, uA y23.2.2 10 (((l1 + (14 : Int32)) + (y23.2.2 14 (l4).toNatClampNeg))).toNatClampNeg l3) (fun y26 => bnd (l3 + 1) (fun x27 => bnd (l4 + 1) (fun x28 => f_X12_eveningGoes_L215 l1 l2 n x27 x28 y26))))))))))))
def f_X12_eveningGoes_J174 (k115 : Int32 → MS → Option (MS)) (l1 : Int32) (l2 : Int32) (l3 : Int32) (l4 : Int32) (t0 : Int32) (t1 : Int32) (z0 : MS) : Option (MS) := grd (vi t1 172) (bnd (z0.1, z0.2.1, uA z0.2.2 10 (t1).toNatClampNeg t0) (fun y34 => grd (vi ((l1 + (38 : Int32)) + l3) 172) ((if l4 = 0 then grd (vi ((l1 + (38 : Int32)) + l3) 172) (bnd (y34.1, y34.2.1, uA y34.2.2 10 (((l1 + (38 : Int32)) + l3)).toNatClampNeg ((y34.2.2 10 (((l1 + (38 : Int32)) + l3)).toNatClampNeg) + (0 : Int32))) (fun y38 => bnd (l3 + 1) (fun x39 => k115 x39 y38))) else grd (vi ((l1 + (38 : Int32)) + l3) 172) (bnd (y34.1, y34.2.1, uA y34.2.2 10 (((l1 + (38 : Int32)) + l3)).toNatClampNeg ((y34.2.2 10 (((l1 + (38 : Int32)) + l3)).toNatClampNeg) + (1 : Int32))) (fun y41 => bnd (l3 + 1) (fun x42 => k115 x42 y41)))))))
def f_X12_eveningGoes_J140 (k115 : Int32 → MS → Option (MS)) (l1 : Int32) (l2 : Int32) (l3 : Int32) (t0 : Int32) (z0 : MS) : Option (MS) := (if t0 = 0 then grd (vi ((l1 + (26 : Int32)) + l3) 172) (f_X12_eveningGoes_J174 (k115) l1 l2 l3 t0 ((z0.2.2 10 (((l1 + (26 : Int32)) + l3)).toNatClampNeg) + (1 : Int32)) ((l1 + (26 : Int32)) + l3) z0) else f_X12_eveningGoes_J174 (k115) l1 l2 l3 t0 (0 : Int32) ((l1 + (26 : Int32)) + l3) z0)
def f_X12_eveningGoes_L115 (l1 : Int32) (l2 : Int32) : Nat → Int32 → MS → Option (MS)
  | 0, _, _ => none
  | n + 1, l3, z0 => (if (z0.1 1) ≤ l3 then (f_X12_falls0 z0 l1).bind (fun q8 => f_X12_eveningGoes_L215 l1 l2 FUEL (0 : Int32) (0 : Int32) q8) else (if (((z0.1 41) >>> (l3 &&& 31)) &&& (1 : Int32)) = (1 : Int32) then f_X12_eveningGoes_J140 (f_X12_eveningGoes_L115 l1 l2 n) l1 l2 l3 (1 : Int32) z0 else f_X12_eveningGoes_J140 (f_X12_eveningGoes_L115 l1 l2 n) l1 l2 l3 (0 : Int32) z0))
def f_X12_eveningGoes_L46 (l1 : Int32) (l2 : Int32) : Nat → Int32 → MS → Option (MS)
  | 0, _, _ => none
  | n + 1, l3, z0 => (if l2 ≤ l3 then f_X12_eveningGoes_L115 l1 l2 FUEL (0 : Int32) z0 else grd (vi ((l1 + (62 : Int32)) + l3) 172) (grd (vi ((l1 + (62 : Int32)) + l3) 172) (bnd (z0.1, z0.2.1, uA z0.2.2 10 (((l1 + (62 : Int32)) + l3)).toNatClampNeg ((z0.2.2 10 (((l1 + (62 : Int32)) + l3)).toNatClampNeg) + (1 : Int32))) (fun y45 => grd (vi l3 12) ((if (y45.2.2 14 (l3).toNatClampNeg) = (-1 : Int32) then bnd (l3 + 1) (fun x53 => f_X12_eveningGoes_L46 l1 l2 n x53 y45) else grd (vi l3 12) ((f_X12_leaves y45 l1 (y45.2.2 14 (l3).toNatClampNeg)).bind (fun q49 => grd (vi l3 12) (bnd (upd q49.1 41 ((q49.1 41) ||| ((1 : Int32) <<< ((q49.2.2 14 (l3).toNatClampNeg) &&& 31))), q49.2) (fun y51 => bnd (l3 + 1) (fun x52 => f_X12_eveningGoes_L46 l1 l2 n x52 y51)))))))))))
def f_X12_eveningGoes_L11 (l1 : Int32) (l2 : Int32) : Nat → Int32 → MS → Option (MS)
  | 0, _, _ => none
  | n + 1, l3, z0 => (if l2 ≤ l3 then bnd (upd z0.1 40 (0 : Int32), z0.2) (fun y4 => bnd (upd y4.1 41 (0 : Int32), y4.2) (fun y5 => f_X12_eveningGoes_L46 l1 l2 FUEL (0 : Int32) y5)) else (f_X12_goerOf z0 l1 l3).bind (fun q54 => grd (vi l3 12) (bnd (q54.2.1, q54.2.2.1, uA q54.2.2.2 14 (l3).toNatClampNeg q54.1) (fun y56 => bnd (l3 + 1) (fun x57 => f_X12_eveningGoes_L11 l1 l2 n x57 y56)))))
def f_X12_eveningGoes (v : MS) (p0 : Int32) : Option (MS) := grd (vi (p0 + (1 : Int32)) 172) (bnd (v.2.2 10 ((p0 + (1 : Int32))).toNatClampNeg) (fun x2 => f_X12_eveningGoes_L11 p0 x2 FUEL (0 : Int32) v))
set_option maxRecDepth 20000 in
theorem w_X12_eveningGoes_L215 {p : Program} {l : Launch} {e : Env} {s : State} {m : MethodId} {args : Array Value} {below : List Frame} {meth : Method} {c : Code} {D : va_G} {A : Nat → Prop} {dT : Nat → ClassId} {a : Nat → Nat} {res : MS} {l1 : Int32} {l2 : Int32} (C : Cx p s m args meth c cX12_eveningGoes 5 RX12 none D A dT) : ∀ (n : Nat) (l3 : Int32) (l4 : Int32) (z0 : MS), f_X12_eveningGoes_L215 l1 l2 n l3 l4 z0 = some res → WA p l e ({ frames := 4, cells := 0, slots := 0, locals := 96 } : Room) s m args below meth c (MQ below (QV D dT A ([wM dT a res])) args s 0 0 A) D A 0 0 5 215 ([wM dT a z0]) [(0, .ref (a 0)), (1, .int l1), (2, .int l2), (3, .int l3), (4, .int l4)] [] := by
  intro n
  induction n with
  | zero => intro l3 l4 z0 hf; cases hf
  | succ n ih =>
    intro l3 l4 z0 hf
    unfold f_X12_eveningGoes_L215 at hf
    refine wa_iload C 4 217 dX12_eveningGoes_215 rfl rfl ?_
    refine wa_iload_n C 2 218 dX12_eveningGoes_217 rfl rfl ?_
    refine wa_icmp_ge C 286 221 dX12_eveningGoes_218 rfl rfl (fun c9 => ?_) (fun c9 => ?_)
    · replace hf := ite_t hf c9
      refine wa_iload_n C 3 287 dX12_eveningGoes_286 rfl rfl ?_
      refine wa_if_le C 295 290 dX12_eveningGoes_287 rfl rfl (fun c10 => ?_) (fun c10 => ?_)
      · replace hf := ite_t hf c10
        refine wa_aload_n C 0 296 dX12_eveningGoes_295 rfl rfl ?_
        refine wa_get C 299 0 0 34 dX12_eveningGoes_296 rfl iX12 q1483 rfl (Nat.le_of_ble_eq_true rfl) rfl rfl rfl ?_
        refine wa_iload_n C 1 300 dX12_eveningGoes_299 rfl rfl ?_
        refine wa_iconst (v := 0) C 301 dX12_eveningGoes_300 rfl rfl ?_
        refine wa_iadd C 302 dX12_eveningGoes_301 rfl ?_
        refine wa_dup2 C 303 dX12_eveningGoes_302 rfl rfl rfl ?_
        obtain ⟨g11, hf⟩ := grd_ex hf
        refine wa_iald C 304 0 10 dX12_eveningGoes_303 rfl rfl rfl (vi_in g11) ?_
        refine wa_iconst (v := 1) C 305 dX12_eveningGoes_304 rfl rfl ?_
        refine wa_iadd C 306 dX12_eveningGoes_305 rfl ?_
        obtain ⟨g12, hf⟩ := grd_ex hf
        obtain ⟨y13, ey13, hf⟩ := bnd_ex hf
        refine wa_iast (ws' := [wM dT a y13]) C 307 0 10 dX12_eveningGoes_306 rfl rfl rfl (vi_in g12) (by rw [ey13]; rfl) ?_
        cases hf
        exact wa_vret C dX12_eveningGoes_307 rfl
      · replace hf := ite_f hf c10
        refine wa_aload_n C 0 291 dX12_eveningGoes_290 rfl rfl ?_
        refine wa_iload_n C 1 292 dX12_eveningGoes_291 rfl rfl ?_
        obtain ⟨q14, hq14, hf⟩ := bind_ex hf
        refine wa_callVAv (b1 := 0) (q1 := 0) (ci := 12) (As := [.int l1]) C 295 dX12_eveningGoes_292 rfl kv_X12_331 (c_X12_founds hq14) ⟨rfl, rfl⟩ ⟨Nat.le_of_ble_eq_true rfl, Nat.le_of_ble_eq_true rfl⟩ rfl rfl rfl rfl rfl ⟨Nat.zero_le _, Nat.zero_le _⟩ (Nat.le_of_ble_eq_true rfl) ?_
        refine wa_aload_n C 0 296 dX12_eveningGoes_295 rfl rfl ?_
        refine wa_get C 299 0 0 34 dX12_eveningGoes_296 rfl iX12 q1483 rfl (Nat.le_of_ble_eq_true rfl) rfl rfl rfl ?_
        refine wa_iload_n C 1 300 dX12_eveningGoes_299 rfl rfl ?_
        refine wa_iconst (v := 0) C 301 dX12_eveningGoes_300 rfl rfl ?_
        refine wa_iadd C 302 dX12_eveningGoes_301 rfl ?_
        refine wa_dup2 C 303 dX12_eveningGoes_302 rfl rfl rfl ?_
        obtain ⟨g15, hf⟩ := grd_ex hf
        refine wa_iald C 304 0 10 dX12_eveningGoes_303 rfl rfl rfl (vi_in g15) ?_
        refine wa_iconst (v := 1) C 305 dX12_eveningGoes_304 rfl rfl ?_
        refine wa_iadd C 306 dX12_eveningGoes_305 rfl ?_
        obtain ⟨g16, hf⟩ := grd_ex hf
        obtain ⟨y17, ey17, hf⟩ := bnd_ex hf
        refine wa_iast (ws' := [wM dT a y17]) C 307 0 10 dX12_eveningGoes_306 rfl rfl rfl (vi_in g16) (by rw [ey17]; rfl) ?_
        cases hf
        exact wa_vret C dX12_eveningGoes_307 rfl
    · replace hf := ite_f hf c9
      refine wa_aload_n C 0 222 dX12_eveningGoes_221 rfl rfl ?_
      refine wa_get C 225 0 0 42 dX12_eveningGoes_222 rfl iX12 q1491 rfl (Nat.le_of_ble_eq_true rfl) rfl rfl rfl ?_
      refine wa_iload C 4 227 dX12_eveningGoes_225 rfl rfl ?_
      obtain ⟨g18, hf⟩ := grd_ex hf
      refine wa_iald C 228 0 14 dX12_eveningGoes_227 rfl rfl rfl (vi_in g18) ?_
      refine wa_iconst (v := (-1)) C 229 dX12_eveningGoes_228 rfl rfl ?_
      refine wa_icmp_ne C 235 232 dX12_eveningGoes_229 rfl rfl (fun c19 => ?_) (fun c19 => ?_)
      · replace hf := ite_f hf c19
        refine wa_aload_n C 0 236 dX12_eveningGoes_235 rfl rfl ?_
        refine wa_get C 239 0 0 34 dX12_eveningGoes_236 rfl iX12 q1483 rfl (Nat.le_of_ble_eq_true rfl) rfl rfl rfl ?_
        refine wa_iload_n C 1 240 dX12_eveningGoes_239 rfl rfl ?_
        refine wa_iconst (v := 2) C 241 dX12_eveningGoes_240 rfl rfl ?_
        refine wa_iadd C 242 dX12_eveningGoes_241 rfl ?_
        refine wa_aload_n C 0 243 dX12_eveningGoes_242 rfl rfl ?_
        refine wa_get C 246 0 0 42 dX12_eveningGoes_243 rfl iX12 q1491 rfl (Nat.le_of_ble_eq_true rfl) rfl rfl rfl ?_
        refine wa_iload C 4 248 dX12_eveningGoes_246 rfl rfl ?_
        obtain ⟨g20, hf⟩ := grd_ex hf
        refine wa_iald C 249 0 14 dX12_eveningGoes_248 rfl rfl rfl (vi_in g20) ?_
        refine wa_iadd C 250 dX12_eveningGoes_249 rfl ?_
        refine wa_aload_n C 0 251 dX12_eveningGoes_250 rfl rfl ?_
        refine wa_get C 254 0 0 34 dX12_eveningGoes_251 rfl iX12 q1483 rfl (Nat.le_of_ble_eq_true rfl) rfl rfl rfl ?_
        refine wa_iload_n C 1 255 dX12_eveningGoes_254 rfl rfl ?_
        refine wa_iconst (v := 1) C 256 dX12_eveningGoes_255 rfl rfl ?_
        refine wa_iadd C 257 dX12_eveningGoes_256 rfl ?_
        obtain ⟨g21, hf⟩ := grd_ex hf
        refine wa_iald C 258 0 10 dX12_eveningGoes_257 rfl rfl rfl (vi_in g21) ?_
        obtain ⟨g22, hf⟩ := grd_ex hf
        obtain ⟨y23, ey23, hf⟩ := bnd_ex hf
        refine wa_iast (ws' := [wM dT a y23]) C 259 0 10 dX12_eveningGoes_258 rfl rfl rfl (vi_in g22) (by rw [ey23]; rfl) ?_
        refine wa_aload_n C 0 260 dX12_eveningGoes_259 rfl rfl ?_
        refine wa_get C 263 0 0 34 dX12_eveningGoes_260 rfl iX12 q1483 rfl (Nat.le_of_ble_eq_true rfl) rfl rfl rfl ?_
        refine wa_iload_n C 1 264 dX12_eveningGoes_263 rfl rfl ?_
        refine wa_bipush (v := 14) C 266 dX12_eveningGoes_264 rfl rfl ?_
        refine wa_iadd C 267 dX12_eveningGoes_266 rfl ?_
        refine wa_aload_n C 0 268 dX12_eveningGoes_267 rfl rfl ?_
        refine wa_get C 271 0 0 42 dX12_eveningGoes_268 rfl iX12 q1491 rfl (Nat.le_of_ble_eq_true rfl) rfl rfl rfl ?_
        refine wa_iload C 4 273 dX12_eveningGoes_271 rfl rfl ?_
        obtain ⟨g24, hf⟩ := grd_ex hf
        refine wa_iald C 274 0 14 dX12_eveningGoes_273 rfl rfl rfl (vi_in g24) ?_
        refine wa_iadd C 275 dX12_eveningGoes_274 rfl ?_
        refine wa_iload_n C 3 276 dX12_eveningGoes_275 rfl rfl ?_
        obtain ⟨g25, hf⟩ := grd_ex hf
        obtain ⟨y26, ey26, hf⟩ := bnd_ex hf
        refine wa_iast (ws' := [wM dT a y26]) C 277 0 10 dX12_eveningGoes_276 rfl rfl rfl (vi_in g25) (by rw [ey26]; rfl) ?_
        obtain ⟨x27, ex27, hf⟩ := bnd_ex hf
        refine wa_iinc (v := x27) (lv' := [(0, .ref (a 0)), (1, .int l1), (2, .int l2), (3, .int x27), (4, .int l4)]) C 3 [1, 2, 3, 0, 4] 280 dX12_eveningGoes_277 rfl rfl (by rw [ex27]; rfl) (Nat.le_of_ble_eq_true rfl) rfl ?_
        obtain ⟨x28, ex28, hf⟩ := bnd_ex hf
        refine wa_iinc (v := x28) (lv' := [(0, .ref (a 0)), (1, .int l1), (2, .int l2), (3, .int x27), (4, .int x28)]) C 4 [1, 2, 3, 4, 0] 283 dX12_eveningGoes_280 rfl rfl (by rw [ex28]; rfl) (Nat.le_of_ble_eq_true rfl) rfl ?_
        refine wa_goto C 215 dX12_eveningGoes_283 rfl ?_
        exact ih x27 x28 y26 hf
      · replace hf := ite_t hf c19
        refine wa_goto C 280 dX12_eveningGoes_232 rfl ?_
        obtain ⟨x29, ex29, hf⟩ := bnd_ex hf
        refine wa_iinc (v := x29) (lv' := [(0, .ref (a 0)), (1, .int l1), (2, .int l2), (3, .int l3), (4, .int x29)]) C 4 [1, 2, 3, 4, 0] 283 dX12_eveningGoes_280 rfl rfl (by rw [ex29]; rfl) (Nat.le_of_ble_eq_true rfl) rfl ?_
        refine wa_goto C 215 dX12_eveningGoes_283 rfl ?_
        exact ih l3 x29 z0 hf
set_option maxRecDepth 20000 in
theorem w_X12_eveningGoes_J174 {p : Program} {l : Launch} {e : Env} {s : State} {m : MethodId} {args : Array Value} {below : List Frame} {meth : Method} {c : Code} {D : va_G} {A : Nat → Prop} {dT : Nat → ClassId} {a : Nat → Nat} {res : MS} {l1 : Int32} {l2 : Int32} (C : Cx p s m args meth c cX12_eveningGoes 5 RX12 none D A dT) {k115 : Int32 → MS → Option (MS)} (hk115 : ∀ (l3 : Int32) (z0 : MS), k115 l3 z0 = some res → WA p l e ({ frames := 4, cells := 0, slots := 0, locals := 96 } : Room) s m args below meth c (MQ below (QV D dT A ([wM dT a res])) args s 0 0 A) D A 0 0 5 115 ([wM dT a z0]) [(0, .ref (a 0)), (1, .int l1), (2, .int l2), (3, .int l3)] []) : ∀ (l3 : Int32) (l4 : Int32) (t0 : Int32) (t1 : Int32) (z0 : MS), f_X12_eveningGoes_J174 k115 l1 l2 l3 l4 t0 t1 z0 = some res → WA p l e ({ frames := 4, cells := 0, slots := 0, locals := 96 } : Room) s m args below meth c (MQ below (QV D dT A ([wM dT a res])) args s 0 0 A) D A 0 0 5 174 ([wM dT a z0]) [(0, .ref (a 0)), (1, .int l1), (2, .int l2), (3, .int l3), (4, .int l4)] [.int t0, .int t1, .ref (a 10)] := by
  intro l3 l4 t0 t1 z0 hf
  unfold f_X12_eveningGoes_J174 at hf
  obtain ⟨g33, hf⟩ := grd_ex hf
  obtain ⟨y34, ey34, hf⟩ := bnd_ex hf
  refine wa_iast (ws' := [wM dT a y34]) C 175 0 10 dX12_eveningGoes_174 rfl rfl rfl (vi_in g33) (by rw [ey34]; rfl) ?_
  refine wa_aload_n C 0 176 dX12_eveningGoes_175 rfl rfl ?_
  refine wa_get C 179 0 0 34 dX12_eveningGoes_176 rfl iX12 q1483 rfl (Nat.le_of_ble_eq_true rfl) rfl rfl rfl ?_
  refine wa_iload_n C 1 180 dX12_eveningGoes_179 rfl rfl ?_
  refine wa_bipush (v := 38) C 182 dX12_eveningGoes_180 rfl rfl ?_
  refine wa_iadd C 183 dX12_eveningGoes_182 rfl ?_
  refine wa_iload_n C 3 184 dX12_eveningGoes_183 rfl rfl ?_
  refine wa_iadd C 185 dX12_eveningGoes_184 rfl ?_
  refine wa_dup2 C 186 dX12_eveningGoes_185 rfl rfl rfl ?_
  obtain ⟨g35, hf⟩ := grd_ex hf
  refine wa_iald C 187 0 10 dX12_eveningGoes_186 rfl rfl rfl (vi_in g35) ?_
  refine wa_iload C 4 189 dX12_eveningGoes_187 rfl rfl ?_
  refine wa_if_eq C 196 192 dX12_eveningGoes_189 rfl rfl (fun c36 => ?_) (fun c36 => ?_)
  · replace hf := ite_t hf c36
    refine wa_iconst (v := 0) C 197 dX12_eveningGoes_196 rfl rfl ?_
    refine wa_iadd C 198 dX12_eveningGoes_197 rfl ?_
    obtain ⟨g37, hf⟩ := grd_ex hf
    obtain ⟨y38, ey38, hf⟩ := bnd_ex hf
    refine wa_iast (ws' := [wM dT a y38]) C 199 0 10 dX12_eveningGoes_198 rfl rfl rfl (vi_in g37) (by rw [ey38]; rfl) ?_
    obtain ⟨x39, ex39, hf⟩ := bnd_ex hf
    refine wa_iinc (v := x39) (lv' := [(0, .ref (a 0)), (1, .int l1), (2, .int l2), (3, .int x39), (4, .int l4)]) C 3 [1, 2, 3, 0, 4] 202 dX12_eveningGoes_199 rfl rfl (by rw [ex39]; rfl) (Nat.le_of_ble_eq_true rfl) rfl ?_
    refine wa_goto C 115 dX12_eveningGoes_202 rfl ?_
    refine wa_lv (lv' := [(0, .ref (a 0)), (1, .int l1), (2, .int l2), (3, .int x39)]) [0, 1, 2, 3] rfl ?_
    exact hk115 x39 y38 hf
  · replace hf := ite_f hf c36
    refine wa_iconst (v := 1) C 193 dX12_eveningGoes_192 rfl rfl ?_
    refine wa_goto C 197 dX12_eveningGoes_193 rfl ?_
    refine wa_iadd C 198 dX12_eveningGoes_197 rfl ?_
    obtain ⟨g40, hf⟩ := grd_ex hf
    obtain ⟨y41, ey41, hf⟩ := bnd_ex hf
    refine wa_iast (ws' := [wM dT a y41]) C 199 0 10 dX12_eveningGoes_198 rfl rfl rfl (vi_in g40) (by rw [ey41]; rfl) ?_
    obtain ⟨x42, ex42, hf⟩ := bnd_ex hf
    refine wa_iinc (v := x42) (lv' := [(0, .ref (a 0)), (1, .int l1), (2, .int l2), (3, .int x42), (4, .int l4)]) C 3 [1, 2, 3, 0, 4] 202 dX12_eveningGoes_199 rfl rfl (by rw [ex42]; rfl) (Nat.le_of_ble_eq_true rfl) rfl ?_
    refine wa_goto C 115 dX12_eveningGoes_202 rfl ?_
    refine wa_lv (lv' := [(0, .ref (a 0)), (1, .int l1), (2, .int l2), (3, .int x42)]) [0, 1, 2, 3] rfl ?_
    exact hk115 x42 y41 hf
set_option maxRecDepth 20000 in
theorem w_X12_eveningGoes_J140 {p : Program} {l : Launch} {e : Env} {s : State} {m : MethodId} {args : Array Value} {below : List Frame} {meth : Method} {c : Code} {D : va_G} {A : Nat → Prop} {dT : Nat → ClassId} {a : Nat → Nat} {res : MS} {l1 : Int32} {l2 : Int32} (C : Cx p s m args meth c cX12_eveningGoes 5 RX12 none D A dT) {k115 : Int32 → MS → Option (MS)} (hk115 : ∀ (l3 : Int32) (z0 : MS), k115 l3 z0 = some res → WA p l e ({ frames := 4, cells := 0, slots := 0, locals := 96 } : Room) s m args below meth c (MQ below (QV D dT A ([wM dT a res])) args s 0 0 A) D A 0 0 5 115 ([wM dT a z0]) [(0, .ref (a 0)), (1, .int l1), (2, .int l2), (3, .int l3)] []) : ∀ (l3 : Int32) (t0 : Int32) (z0 : MS), f_X12_eveningGoes_J140 k115 l1 l2 l3 t0 z0 = some res → WA p l e ({ frames := 4, cells := 0, slots := 0, locals := 96 } : Room) s m args below meth c (MQ below (QV D dT A ([wM dT a res])) args s 0 0 A) D A 0 0 5 140 ([wM dT a z0]) [(0, .ref (a 0)), (1, .int l1), (2, .int l2), (3, .int l3)] [.int t0] := by
  intro l3 t0 z0 hf
  unfold f_X12_eveningGoes_J140 at hf
  refine wa_istore (lv' := [(0, .ref (a 0)), (1, .int l1), (2, .int l2), (3, .int l3), (4, .int t0)]) C [1, 2, 3, 4, 0] 142 dX12_eveningGoes_140 rfl (Nat.le_of_ble_eq_true rfl) rfl ?_
  refine wa_aload_n C 0 143 dX12_eveningGoes_142 rfl rfl ?_
  refine wa_get C 146 0 0 34 dX12_eveningGoes_143 rfl iX12 q1483 rfl (Nat.le_of_ble_eq_true rfl) rfl rfl rfl ?_
  refine wa_iload_n C 1 147 dX12_eveningGoes_146 rfl rfl ?_
  refine wa_bipush (v := 26) C 149 dX12_eveningGoes_147 rfl rfl ?_
  refine wa_iadd C 150 dX12_eveningGoes_149 rfl ?_
  refine wa_iload_n C 3 151 dX12_eveningGoes_150 rfl rfl ?_
  refine wa_iadd C 152 dX12_eveningGoes_151 rfl ?_
  refine wa_iload C 4 154 dX12_eveningGoes_152 rfl rfl ?_
  refine wa_if_eq C 161 157 dX12_eveningGoes_154 rfl rfl (fun c31 => ?_) (fun c31 => ?_)
  · replace hf := ite_t hf c31
    refine wa_aload_n C 0 162 dX12_eveningGoes_161 rfl rfl ?_
    refine wa_get C 165 0 0 34 dX12_eveningGoes_162 rfl iX12 q1483 rfl (Nat.le_of_ble_eq_true rfl) rfl rfl rfl ?_
    refine wa_iload_n C 1 166 dX12_eveningGoes_165 rfl rfl ?_
    refine wa_bipush (v := 26) C 168 dX12_eveningGoes_166 rfl rfl ?_
    refine wa_iadd C 169 dX12_eveningGoes_168 rfl ?_
    refine wa_iload_n C 3 170 dX12_eveningGoes_169 rfl rfl ?_
    refine wa_iadd C 171 dX12_eveningGoes_170 rfl ?_
    obtain ⟨g32, hf⟩ := grd_ex hf
    refine wa_iald C 172 0 10 dX12_eveningGoes_171 rfl rfl rfl (vi_in g32) ?_
    refine wa_iconst (v := 1) C 173 dX12_eveningGoes_172 rfl rfl ?_
    refine wa_iadd C 174 dX12_eveningGoes_173 rfl ?_
    exact w_X12_eveningGoes_J174 C hk115 l3 t0 ((z0.2.2 10 (((l1 + (26 : Int32)) + l3)).toNatClampNeg) + (1 : Int32)) ((l1 + (26 : Int32)) + l3) z0 hf
  · replace hf := ite_f hf c31
    refine wa_iconst (v := 0) C 158 dX12_eveningGoes_157 rfl rfl ?_
    refine wa_goto C 174 dX12_eveningGoes_158 rfl ?_
    exact w_X12_eveningGoes_J174 C hk115 l3 t0 (0 : Int32) ((l1 + (26 : Int32)) + l3) z0 hf
set_option maxRecDepth 20000 in
theorem w_X12_eveningGoes_L115 {p : Program} {l : Launch} {e : Env} {s : State} {m : MethodId} {args : Array Value} {below : List Frame} {meth : Method} {c : Code} {D : va_G} {A : Nat → Prop} {dT : Nat → ClassId} {a : Nat → Nat} {res : MS} {l1 : Int32} {l2 : Int32} (C : Cx p s m args meth c cX12_eveningGoes 5 RX12 none D A dT) : ∀ (n : Nat) (l3 : Int32) (z0 : MS), f_X12_eveningGoes_L115 l1 l2 n l3 z0 = some res → WA p l e ({ frames := 4, cells := 0, slots := 0, locals := 96 } : Room) s m args below meth c (MQ below (QV D dT A ([wM dT a res])) args s 0 0 A) D A 0 0 5 115 ([wM dT a z0]) [(0, .ref (a 0)), (1, .int l1), (2, .int l2), (3, .int l3)] [] := by
  intro n
  induction n with
  | zero => intro l3 z0 hf; cases hf
  | succ n ih =>
    intro l3 z0 hf
    unfold f_X12_eveningGoes_L115 at hf
    refine wa_iload_n C 3 116 dX12_eveningGoes_115 rfl rfl ?_
    refine wa_aload_n C 0 117 dX12_eveningGoes_116 rfl rfl ?_
    refine wa_get C 120 0 0 1 dX12_eveningGoes_117 rfl iX12 q1450 rfl (Nat.le_of_ble_eq_true rfl) rfl rfl rfl ?_
    refine wa_icmp_ge C 205 123 dX12_eveningGoes_120 rfl rfl (fun c7 => ?_) (fun c7 => ?_)
    · replace hf := ite_t hf c7
      refine wa_aload_n C 0 206 dX12_eveningGoes_205 rfl rfl ?_
      refine wa_iload_n C 1 207 dX12_eveningGoes_206 rfl rfl ?_
      obtain ⟨q8, hq8, hf⟩ := bind_ex hf
      refine wa_callVAv (b1 := 0) (q1 := 0) (ci := 12) (As := [.int l1]) C 210 dX12_eveningGoes_207 rfl kv_X12_328 (c_X12_falls0 hq8) ⟨rfl, rfl⟩ ⟨Nat.le_of_ble_eq_true rfl, Nat.le_of_ble_eq_true rfl⟩ rfl rfl rfl rfl rfl ⟨Nat.zero_le _, Nat.zero_le _⟩ (Nat.le_of_ble_eq_true rfl) ?_
      refine wa_iconst (v := 0) C 211 dX12_eveningGoes_210 rfl rfl ?_
      refine wa_istore_n (lv' := [(0, .ref (a 0)), (1, .int l1), (2, .int l2), (3, .int (0 : Int32))]) C [1, 2, 3, 0] 212 dX12_eveningGoes_211 rfl (Nat.le_of_ble_eq_true rfl) rfl ?_
      refine wa_iconst (v := 0) C 213 dX12_eveningGoes_212 rfl rfl ?_
      refine wa_istore (lv' := [(0, .ref (a 0)), (1, .int l1), (2, .int l2), (3, .int (0 : Int32)), (4, .int (0 : Int32))]) C [1, 2, 3, 4, 0] 215 dX12_eveningGoes_213 rfl (Nat.le_of_ble_eq_true rfl) rfl ?_
      exact w_X12_eveningGoes_L215 C FUEL (0 : Int32) (0 : Int32) q8 hf
    · replace hf := ite_f hf c7
      refine wa_aload_n C 0 124 dX12_eveningGoes_123 rfl rfl ?_
      refine wa_get C 127 0 0 41 dX12_eveningGoes_124 rfl iX12 q1490 rfl (Nat.le_of_ble_eq_true rfl) rfl rfl rfl ?_
      refine wa_iload_n C 3 128 dX12_eveningGoes_127 rfl rfl ?_
      refine wa_ishr C 129 dX12_eveningGoes_128 rfl ?_
      refine wa_iconst (v := 1) C 130 dX12_eveningGoes_129 rfl rfl ?_
      refine wa_iand C 131 dX12_eveningGoes_130 rfl ?_
      refine wa_iconst (v := 1) C 132 dX12_eveningGoes_131 rfl rfl ?_
      refine wa_icmp_ne C 139 135 dX12_eveningGoes_132 rfl rfl (fun c30 => ?_) (fun c30 => ?_)
      · replace hf := ite_f hf c30
        refine wa_iconst (v := 0) C 140 dX12_eveningGoes_139 rfl rfl ?_
        exact w_X12_eveningGoes_J140 C ih l3 (0 : Int32) z0 hf
      · replace hf := ite_t hf c30
        refine wa_iconst (v := 1) C 136 dX12_eveningGoes_135 rfl rfl ?_
        refine wa_goto C 140 dX12_eveningGoes_136 rfl ?_
        exact w_X12_eveningGoes_J140 C ih l3 (1 : Int32) z0 hf
set_option maxRecDepth 20000 in
theorem w_X12_eveningGoes_L46 {p : Program} {l : Launch} {e : Env} {s : State} {m : MethodId} {args : Array Value} {below : List Frame} {meth : Method} {c : Code} {D : va_G} {A : Nat → Prop} {dT : Nat → ClassId} {a : Nat → Nat} {res : MS} {l1 : Int32} {l2 : Int32} (C : Cx p s m args meth c cX12_eveningGoes 5 RX12 none D A dT) : ∀ (n : Nat) (l3 : Int32) (z0 : MS), f_X12_eveningGoes_L46 l1 l2 n l3 z0 = some res → WA p l e ({ frames := 4, cells := 0, slots := 0, locals := 96 } : Room) s m args below meth c (MQ below (QV D dT A ([wM dT a res])) args s 0 0 A) D A 0 0 5 46 ([wM dT a z0]) [(0, .ref (a 0)), (1, .int l1), (2, .int l2), (3, .int l3)] [] := by
  intro n
  induction n with
  | zero => intro l3 z0 hf; cases hf
  | succ n ih =>
    intro l3 z0 hf
    unfold f_X12_eveningGoes_L46 at hf
    refine wa_iload_n C 3 47 dX12_eveningGoes_46 rfl rfl ?_
    refine wa_iload_n C 2 48 dX12_eveningGoes_47 rfl rfl ?_
    refine wa_icmp_ge C 113 51 dX12_eveningGoes_48 rfl rfl (fun c6 => ?_) (fun c6 => ?_)
    · replace hf := ite_t hf c6
      refine wa_iconst (v := 0) C 114 dX12_eveningGoes_113 rfl rfl ?_
      refine wa_istore_n (lv' := [(0, .ref (a 0)), (1, .int l1), (2, .int l2), (3, .int (0 : Int32))]) C [1, 2, 3, 0] 115 dX12_eveningGoes_114 rfl (Nat.le_of_ble_eq_true rfl) rfl ?_
      exact w_X12_eveningGoes_L115 C FUEL (0 : Int32) z0 hf
    · replace hf := ite_f hf c6
      refine wa_aload_n C 0 52 dX12_eveningGoes_51 rfl rfl ?_
      refine wa_get C 55 0 0 34 dX12_eveningGoes_52 rfl iX12 q1483 rfl (Nat.le_of_ble_eq_true rfl) rfl rfl rfl ?_
      refine wa_iload_n C 1 56 dX12_eveningGoes_55 rfl rfl ?_
      refine wa_bipush (v := 62) C 58 dX12_eveningGoes_56 rfl rfl ?_
      refine wa_iadd C 59 dX12_eveningGoes_58 rfl ?_
      refine wa_iload_n C 3 60 dX12_eveningGoes_59 rfl rfl ?_
      refine wa_iadd C 61 dX12_eveningGoes_60 rfl ?_
      refine wa_dup2 C 62 dX12_eveningGoes_61 rfl rfl rfl ?_
      obtain ⟨g43, hf⟩ := grd_ex hf
      refine wa_iald C 63 0 10 dX12_eveningGoes_62 rfl rfl rfl (vi_in g43) ?_
      refine wa_iconst (v := 1) C 64 dX12_eveningGoes_63 rfl rfl ?_
      refine wa_iadd C 65 dX12_eveningGoes_64 rfl ?_
      obtain ⟨g44, hf⟩ := grd_ex hf
      obtain ⟨y45, ey45, hf⟩ := bnd_ex hf
      refine wa_iast (ws' := [wM dT a y45]) C 66 0 10 dX12_eveningGoes_65 rfl rfl rfl (vi_in g44) (by rw [ey45]; rfl) ?_
      refine wa_aload_n C 0 67 dX12_eveningGoes_66 rfl rfl ?_
      refine wa_get C 70 0 0 42 dX12_eveningGoes_67 rfl iX12 q1491 rfl (Nat.le_of_ble_eq_true rfl) rfl rfl rfl ?_
      refine wa_iload_n C 3 71 dX12_eveningGoes_70 rfl rfl ?_
      obtain ⟨g46, hf⟩ := grd_ex hf
      refine wa_iald C 72 0 14 dX12_eveningGoes_71 rfl rfl rfl (vi_in g46) ?_
      refine wa_iconst (v := (-1)) C 73 dX12_eveningGoes_72 rfl rfl ?_
      refine wa_icmp_ne C 79 76 dX12_eveningGoes_73 rfl rfl (fun c47 => ?_) (fun c47 => ?_)
      · replace hf := ite_f hf c47
        refine wa_aload_n C 0 80 dX12_eveningGoes_79 rfl rfl ?_
        refine wa_iload_n C 1 81 dX12_eveningGoes_80 rfl rfl ?_
        refine wa_aload_n C 0 82 dX12_eveningGoes_81 rfl rfl ?_
        refine wa_get C 85 0 0 42 dX12_eveningGoes_82 rfl iX12 q1491 rfl (Nat.le_of_ble_eq_true rfl) rfl rfl rfl ?_
        refine wa_iload_n C 3 86 dX12_eveningGoes_85 rfl rfl ?_
        obtain ⟨g48, hf⟩ := grd_ex hf
        refine wa_iald C 87 0 14 dX12_eveningGoes_86 rfl rfl rfl (vi_in g48) ?_
        obtain ⟨q49, hq49, hf⟩ := bind_ex hf
        refine wa_callVAv (b1 := 0) (q1 := 0) (ci := 12) (As := [.int l1, .int (y45.2.2 14 (l3).toNatClampNeg)]) C 90 dX12_eveningGoes_87 rfl kv_X12_325 (c_X12_leaves hq49) ⟨rfl, rfl⟩ ⟨Nat.le_of_ble_eq_true rfl, Nat.le_of_ble_eq_true rfl⟩ rfl rfl rfl rfl rfl ⟨Nat.zero_le _, Nat.zero_le _⟩ (Nat.le_of_ble_eq_true rfl) ?_
        refine wa_aload_n C 0 91 dX12_eveningGoes_90 rfl rfl ?_
        refine wa_dup C 92 dX12_eveningGoes_91 rfl rfl ?_
        refine wa_get C 95 0 0 41 dX12_eveningGoes_92 rfl iX12 q1490 rfl (Nat.le_of_ble_eq_true rfl) rfl rfl rfl ?_
        refine wa_iconst (v := 1) C 96 dX12_eveningGoes_95 rfl rfl ?_
        refine wa_aload_n C 0 97 dX12_eveningGoes_96 rfl rfl ?_
        refine wa_get C 100 0 0 42 dX12_eveningGoes_97 rfl iX12 q1491 rfl (Nat.le_of_ble_eq_true rfl) rfl rfl rfl ?_
        refine wa_iload_n C 3 101 dX12_eveningGoes_100 rfl rfl ?_
        obtain ⟨g50, hf⟩ := grd_ex hf
        refine wa_iald C 102 0 14 dX12_eveningGoes_101 rfl rfl rfl (vi_in g50) ?_
        refine wa_ishl C 103 dX12_eveningGoes_102 rfl ?_
        refine wa_ior C 104 dX12_eveningGoes_103 rfl ?_
        obtain ⟨y51, ey51, hf⟩ := bnd_ex hf
        refine wa_put (ws' := [wM dT a y51]) C 107 0 0 41 tyX12 dX12_eveningGoes_104 rfl iX12 tyX12_ok nmX12 q1490 rfl (Nat.le_of_ble_eq_true rfl) rfl rfl rfl rfl rfl (Nat.le_of_ble_eq_true rfl) (by rw [ey51]; rfl) ?_
        obtain ⟨x52, ex52, hf⟩ := bnd_ex hf
        refine wa_iinc (v := x52) (lv' := [(0, .ref (a 0)), (1, .int l1), (2, .int l2), (3, .int x52)]) C 3 [1, 2, 3, 0] 110 dX12_eveningGoes_107 rfl rfl (by rw [ex52]; rfl) (Nat.le_of_ble_eq_true rfl) rfl ?_
        refine wa_goto C 46 dX12_eveningGoes_110 rfl ?_
        exact ih x52 y51 hf
      · replace hf := ite_t hf c47
        refine wa_goto C 107 dX12_eveningGoes_76 rfl ?_
        obtain ⟨x53, ex53, hf⟩ := bnd_ex hf
        refine wa_iinc (v := x53) (lv' := [(0, .ref (a 0)), (1, .int l1), (2, .int l2), (3, .int x53)]) C 3 [1, 2, 3, 0] 110 dX12_eveningGoes_107 rfl rfl (by rw [ex53]; rfl) (Nat.le_of_ble_eq_true rfl) rfl ?_
        refine wa_goto C 46 dX12_eveningGoes_110 rfl ?_
        exact ih x53 y45 hf
set_option maxRecDepth 20000 in
theorem w_X12_eveningGoes_L11 {p : Program} {l : Launch} {e : Env} {s : State} {m : MethodId} {args : Array Value} {below : List Frame} {meth : Method} {c : Code} {D : va_G} {A : Nat → Prop} {dT : Nat → ClassId} {a : Nat → Nat} {res : MS} {l1 : Int32} {l2 : Int32} (C : Cx p s m args meth c cX12_eveningGoes 5 RX12 none D A dT) : ∀ (n : Nat) (l3 : Int32) (z0 : MS), f_X12_eveningGoes_L11 l1 l2 n l3 z0 = some res → WA p l e ({ frames := 4, cells := 0, slots := 0, locals := 96 } : Room) s m args below meth c (MQ below (QV D dT A ([wM dT a res])) args s 0 0 A) D A 0 0 5 11 ([wM dT a z0]) [(0, .ref (a 0)), (1, .int l1), (2, .int l2), (3, .int l3)] [] := by
  intro n
  induction n with
  | zero => intro l3 z0 hf; cases hf
  | succ n ih =>
    intro l3 z0 hf
    unfold f_X12_eveningGoes_L11 at hf
    refine wa_iload_n C 3 12 dX12_eveningGoes_11 rfl rfl ?_
    refine wa_iload_n C 2 13 dX12_eveningGoes_12 rfl rfl ?_
    refine wa_icmp_ge C 34 16 dX12_eveningGoes_13 rfl rfl (fun c3 => ?_) (fun c3 => ?_)
    · replace hf := ite_t hf c3
      refine wa_aload_n C 0 35 dX12_eveningGoes_34 rfl rfl ?_
      refine wa_iconst (v := 0) C 36 dX12_eveningGoes_35 rfl rfl ?_
      obtain ⟨y4, ey4, hf⟩ := bnd_ex hf
      refine wa_put (ws' := [wM dT a y4]) C 39 0 0 40 tyX12 dX12_eveningGoes_36 rfl iX12 tyX12_ok nmX12 q1489 rfl (Nat.le_of_ble_eq_true rfl) rfl rfl rfl rfl rfl (Nat.le_of_ble_eq_true rfl) (by rw [ey4]; rfl) ?_
      refine wa_aload_n C 0 40 dX12_eveningGoes_39 rfl rfl ?_
      refine wa_iconst (v := 0) C 41 dX12_eveningGoes_40 rfl rfl ?_
      obtain ⟨y5, ey5, hf⟩ := bnd_ex hf
      refine wa_put (ws' := [wM dT a y5]) C 44 0 0 41 tyX12 dX12_eveningGoes_41 rfl iX12 tyX12_ok nmX12 q1490 rfl (Nat.le_of_ble_eq_true rfl) rfl rfl rfl rfl rfl (Nat.le_of_ble_eq_true rfl) (by rw [ey5]; rfl) ?_
      refine wa_iconst (v := 0) C 45 dX12_eveningGoes_44 rfl rfl ?_
      refine wa_istore_n (lv' := [(0, .ref (a 0)), (1, .int l1), (2, .int l2), (3, .int (0 : Int32))]) C [1, 2, 3, 0] 46 dX12_eveningGoes_45 rfl (Nat.le_of_ble_eq_true rfl) rfl ?_
      exact w_X12_eveningGoes_L46 C FUEL (0 : Int32) y5 hf
    · replace hf := ite_f hf c3
      refine wa_aload_n C 0 17 dX12_eveningGoes_16 rfl rfl ?_
      refine wa_get C 20 0 0 42 dX12_eveningGoes_17 rfl iX12 q1491 rfl (Nat.le_of_ble_eq_true rfl) rfl rfl rfl ?_
      refine wa_iload_n C 3 21 dX12_eveningGoes_20 rfl rfl ?_
      refine wa_aload_n C 0 22 dX12_eveningGoes_21 rfl rfl ?_
      refine wa_iload_n C 1 23 dX12_eveningGoes_22 rfl rfl ?_
      refine wa_iload_n C 3 24 dX12_eveningGoes_23 rfl rfl ?_
      obtain ⟨q54, hq54, hf⟩ := bind_ex hf
      refine wa_callVAi (b1 := 0) (q1 := 0) (ci := 12) (As := [.int l1, .int l3]) C 27 dX12_eveningGoes_24 rfl kv_X12_319 (c_X12_goerOf hq54) ⟨rfl, rfl⟩ ⟨Nat.le_of_ble_eq_true rfl, Nat.le_of_ble_eq_true rfl⟩ rfl rfl rfl rfl rfl ⟨Nat.zero_le _, Nat.zero_le _⟩ (Nat.le_of_ble_eq_true rfl) ?_
      obtain ⟨g55, hf⟩ := grd_ex hf
      obtain ⟨y56, ey56, hf⟩ := bnd_ex hf
      refine wa_iast (ws' := [wM dT a y56]) C 28 0 14 dX12_eveningGoes_27 rfl rfl rfl (vi_in g55) (by rw [ey56]; rfl) ?_
      obtain ⟨x57, ex57, hf⟩ := bnd_ex hf
      refine wa_iinc (v := x57) (lv' := [(0, .ref (a 0)), (1, .int l1), (2, .int l2), (3, .int x57)]) C 3 [1, 2, 3, 0] 31 dX12_eveningGoes_28 rfl rfl (by rw [ex57]; rfl) (Nat.le_of_ble_eq_true rfl) rfl ?_
      refine wa_goto C 11 dX12_eveningGoes_31 rfl ?_
      exact ih x57 y56 hf
set_option maxRecDepth 20000 in
theorem c_X12_eveningGoes {l : Launch} {D : va_G} {dT : Nat → ClassId} {a : Nat → Nat} {v : MS} {p0 : Int32} {res : MS} (hf : f_X12_eveningGoes v p0 = some res) : CTv l yX12_eveningGoes cX12_eveningGoes 5 none ({ frames := 4, cells := 0, slots := 0, locals := 96 } : Room) D dT [.ref (a 0), .int p0] ([wM dT a v]) ([wM dT a res]) := by
  refine CTv.of (by decide) (Nat.le_of_ble_eq_true rfl) rfl ?_
  intro p e s m args below meth c A C
  unfold f_X12_eveningGoes at hf
  refine wa_aload_n C 0 1 dX12_eveningGoes_0 rfl rfl ?_
  refine wa_get C 4 0 0 34 dX12_eveningGoes_1 rfl iX12 q1483 rfl (Nat.le_of_ble_eq_true rfl) rfl rfl rfl ?_
  refine wa_iload_n C 1 5 dX12_eveningGoes_4 rfl rfl ?_
  refine wa_iconst (v := 1) C 6 dX12_eveningGoes_5 rfl rfl ?_
  refine wa_iadd C 7 dX12_eveningGoes_6 rfl ?_
  obtain ⟨g1, hf⟩ := grd_ex hf
  refine wa_iald C 8 0 10 dX12_eveningGoes_7 rfl rfl rfl (vi_in g1) ?_
  obtain ⟨x2, ex2, hf⟩ := bnd_ex hf
  refine wa_topi ex2 ?_
  refine wa_istore_n (lv' := [(0, .ref (a 0)), (1, .int p0), (2, .int x2)]) C [1, 2, 0] 9 dX12_eveningGoes_8 rfl (Nat.le_of_ble_eq_true rfl) rfl ?_
  refine wa_iconst (v := 0) C 10 dX12_eveningGoes_9 rfl rfl ?_
  refine wa_istore_n (lv' := [(0, .ref (a 0)), (1, .int p0), (2, .int x2), (3, .int (0 : Int32))]) C [1, 2, 3, 0] 11 dX12_eveningGoes_10 rfl (Nat.le_of_ble_eq_true rfl) rfl ?_
  exact w_X12_eveningGoes_L11 C FUEL (0 : Int32) v hf
