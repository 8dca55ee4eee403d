theorem bp1_0 : decode prog_32_method_4_code 0 = .ok (.aload_n 0, 1) := by decide +kernel
theorem bp1_1 : decode prog_32_method_4_code 1 = .ok (.aload_n 1, 1) := by decide +kernel
theorem bp1_2 : decode prog_32_method_4_code 2 = .ok (.invokespecial 13, 3) := by decide +kernel
theorem bp1_5 : decode prog_32_method_4_code 5 = .ok (.return_, 1) := by decide +kernel
theorem nxt1 : NXT RX11 192 (nmE 1) 13 prog_32_method_4_code := NXT.of (by decide +kernel)
theorem bp2_0 : decode prog_20_method_2_code 0 = .ok (.aload_n 0, 1) := by decide +kernel
theorem bp2_1 : decode prog_20_method_2_code 1 = .ok (.aload_n 1, 1) := by decide +kernel
theorem bp2_2 : decode prog_20_method_2_code 2 = .ok (.invokespecial 7, 3) := by decide +kernel
theorem bp2_5 : decode prog_20_method_2_code 5 = .ok (.return_, 1) := by decide +kernel
theorem nxt2 : NXT RX11 112 (nmE 2) 7 prog_20_method_2_code := NXT.of (by decide +kernel)
def t_X11_needHouse (v : Ob) (v_fam : FS) (p0 : Int32) : Option Nat := (if p0 < 0 then some 1 else grd (decide (0 < v_fam.1)) ((if p0 < ((v_fam.2.2 0).1 1) then none else some 1)))
set_option maxRecDepth 20000 in
theorem x_X11_needHouse {l : Launch} {D : va_G} {dT : Nat → ClassId} {aK aV : Nat → Nat} {a : Nat → Nat} {a_fam : Nat → Nat → Nat} {h_tape : Nat} {h_reader : Nat} {h_friends : Nat} {h_dusk : Nat} {h_coming : Nat} {h_acts : Nat} {h_seen : Nat} {h_pairs : Nat} {h_trials : Nat} {h_imageNow : Nat} {h_imageActs : Nat} {h_imageSeen : Nat} {v : Ob} {v_fam : FS} {p0 : Int32} {k : Nat} (hl : l.stackTraces = false) (hf : t_X11_needHouse v v_fam p0 = some k) : CX aK aV l yX11_needHouse cX11_needHouse 2 none ({ frames := 6, cells := 1, slots := 6, locals := 100 } : Room) D dT [.ref (a 0), .int p0] ([wH dT a h_tape h_reader h_friends h_dusk (a_fam 0 0) h_coming h_acts h_seen h_pairs h_trials h_imageNow h_imageActs h_imageSeen v, wRw dT v_fam.1 a_fam v_fam.2.2]) (nmE k) := by
  refine CX.of (by decide) (Nat.le_of_ble_eq_true rfl) rfl ?_
  intro p e s m args below meth c A C E ht
  unfold t_X11_needHouse at hf
  refine wa_iload_n C 1 1 dX11_needHouse_0 rfl rfl ?_
  refine wa_if_lt C 15 4 dX11_needHouse_1 rfl rfl (fun c1 => ?_) (fun c1 => ?_)
  · replace hf := ite_t hf c1
    cases hf
    exact wx_throw (cls := nmE 1) C E hl ht 21 dX11_needHouse_15 dX11_needHouse_18 (Or.inr ⟨dX11_needHouse_19, rfl⟩) dX11_needHouse_22 dX11_needHouse_25 rfl (by decide) bp1_0 bp1_1 bp1_2 bp1_5 q984 q26 nxt1 (Nat.le_of_ble_eq_true rfl) (Nat.le_of_ble_eq_true rfl) (Nat.le_of_ble_eq_true rfl) (Nat.le_of_ble_eq_true rfl) (Nat.le_of_ble_eq_true rfl) (Nat.le_of_ble_eq_true rfl)
  · replace hf := ite_f hf c1
    refine wa_iload_n C 1 5 dX11_needHouse_4 rfl rfl ?_
    refine wa_aload_n C 0 6 dX11_needHouse_5 rfl rfl ?_
    refine wa_get C 9 0 0 7 dX11_needHouse_6 rfl iX11 q364 rfl (Nat.le_of_ble_eq_true rfl) rfl rfl rfl ?_
    obtain ⟨g2, hf⟩ := grd_ex hf
    refine wa_openF 1 0 (of_decide_eq_true g2) List.not_mem_nil rfl ?_
    refine wa_get C 12 2 0 1 dX11_needHouse_9 rfl iX10 q60 rfl (Nat.le_of_ble_eq_true rfl) rfl rfl rfl ?_
    refine wa_closeR (ws := [wH dT a h_tape h_reader h_friends h_dusk (a_fam 0 0) h_coming h_acts h_seen h_pairs h_trials h_imageNow h_imageActs h_imageSeen v, wRm dT v_fam.1 [0] a_fam v_fam.2.2]) (ws' := [wH dT a h_tape h_reader h_friends h_dusk (a_fam 0 0) h_coming h_acts h_seen h_pairs h_trials h_imageNow h_imageActs h_imageSeen v, wRw dT v_fam.1 a_fam v_fam.2.2]) 1 0 (of_decide_eq_true g2) List.not_mem_nil rfl rfl ?_
    refine wa_icmp_lt C 26 15 dX11_needHouse_12 rfl rfl (fun c3 => ?_) (fun c3 => ?_)
    · replace hf := ite_t hf c3
      cases hf
    · replace hf := ite_f hf c3
      cases hf
      exact wx_throw (cls := nmE 1) C E hl ht 21 dX11_needHouse_15 dX11_needHouse_18 (Or.inr ⟨dX11_needHouse_19, rfl⟩) dX11_needHouse_22 dX11_needHouse_25 rfl (by decide) bp1_0 bp1_1 bp1_2 bp1_5 q984 q26 nxt1 (Nat.le_of_ble_eq_true rfl) (Nat.le_of_ble_eq_true rfl) (Nat.le_of_ble_eq_true rfl) (Nat.le_of_ble_eq_true rfl) (Nat.le_of_ble_eq_true rfl) (Nat.le_of_ble_eq_true rfl)
def t_X11_needPerson (v : Ob) (v_fam : FS) (p0 : Int32) : Option Nat := (if p0 < 0 then some 1 else grd (decide (0 < v_fam.1)) ((if p0 < ((v_fam.2.2 0).1 0) then none else some 1)))
set_option maxRecDepth 20000 in
theorem x_X11_needPerson {l : Launch} {D : va_G} {dT : Nat → ClassId} {aK aV : Nat → Nat} {a : Nat → Nat} {a_fam : Nat → Nat → Nat} {h_tape : Nat} {h_reader : Nat} {h_friends : Nat} {h_dusk : Nat} {h_coming : Nat} {h_acts : Nat} {h_seen : Nat} {h_pairs : Nat} {h_trials : Nat} {h_imageNow : Nat} {h_imageActs : Nat} {h_imageSeen : Nat} {v : Ob} {v_fam : FS} {p0 : Int32} {k : Nat} (hl : l.stackTraces = false) (hf : t_X11_needPerson v v_fam p0 = some k) : CX aK aV l yX11_needPerson cX11_needPerson 2 none ({ frames := 6, cells := 1, slots := 6, locals := 100 } : Room) D dT [.ref (a 0), .int p0] ([wH dT a h_tape h_reader h_friends h_dusk (a_fam 0 0) h_coming h_acts h_seen h_pairs h_trials h_imageNow h_imageActs h_imageSeen v, wRw dT v_fam.1 a_fam v_fam.2.2]) (nmE k) := by
  refine CX.of (by decide) (Nat.le_of_ble_eq_true rfl) rfl ?_
  intro p e s m args below meth c A C E ht
  unfold t_X11_needPerson at hf
  refine wa_iload_n C 1 1 dX11_needPerson_0 rfl rfl ?_
  refine wa_if_lt C 15 4 dX11_needPerson_1 rfl rfl (fun c1 => ?_) (fun c1 => ?_)
  · replace hf := ite_t hf c1
    cases hf
    exact wx_throw (cls := nmE 1) C E hl ht 19 dX11_needPerson_15 dX11_needPerson_18 (Or.inr ⟨dX11_needPerson_19, rfl⟩) dX11_needPerson_22 dX11_needPerson_25 rfl (by decide) bp1_0 bp1_1 bp1_2 bp1_5 q984 q26 nxt1 (Nat.le_of_ble_eq_true rfl) (Nat.le_of_ble_eq_true rfl) (Nat.le_of_ble_eq_true rfl) (Nat.le_of_ble_eq_true rfl) (Nat.le_of_ble_eq_true rfl) (Nat.le_of_ble_eq_true rfl)
  · replace hf := ite_f hf c1
    refine wa_iload_n C 1 5 dX11_needPerson_4 rfl rfl ?_
    refine wa_aload_n C 0 6 dX11_needPerson_5 rfl rfl ?_
    refine wa_get C 9 0 0 7 dX11_needPerson_6 rfl iX11 q364 rfl (Nat.le_of_ble_eq_true rfl) rfl rfl rfl ?_
    obtain ⟨g2, hf⟩ := grd_ex hf
    refine wa_openF 1 0 (of_decide_eq_true g2) List.not_mem_nil rfl ?_
    refine wa_get C 12 2 0 0 dX11_needPerson_9 rfl iX10 q53 rfl (Nat.le_of_ble_eq_true rfl) rfl rfl rfl ?_
    refine wa_closeR (ws := [wH dT a h_tape h_reader h_friends h_dusk (a_fam 0 0) h_coming h_acts h_seen h_pairs h_trials h_imageNow h_imageActs h_imageSeen v, wRm dT v_fam.1 [0] a_fam v_fam.2.2]) (ws' := [wH dT a h_tape h_reader h_friends h_dusk (a_fam 0 0) h_coming h_acts h_seen h_pairs h_trials h_imageNow h_imageActs h_imageSeen v, wRw dT v_fam.1 a_fam v_fam.2.2]) 1 0 (of_decide_eq_true g2) List.not_mem_nil rfl rfl ?_
    refine wa_icmp_lt C 26 15 dX11_needPerson_12 rfl rfl (fun c3 => ?_) (fun c3 => ?_)
    · replace hf := ite_t hf c3
      cases hf
    · replace hf := ite_f hf c3
      cases hf
      exact wx_throw (cls := nmE 1) C E hl ht 19 dX11_needPerson_15 dX11_needPerson_18 (Or.inr ⟨dX11_needPerson_19, rfl⟩) dX11_needPerson_22 dX11_needPerson_25 rfl (by decide) bp1_0 bp1_1 bp1_2 bp1_5 q984 q26 nxt1 (Nat.le_of_ble_eq_true rfl) (Nat.le_of_ble_eq_true rfl) (Nat.le_of_ble_eq_true rfl) (Nat.le_of_ble_eq_true rfl) (Nat.le_of_ble_eq_true rfl) (Nat.le_of_ble_eq_true rfl)
def t_X11_needWhat (p0 : Int32) (p1 : Int32) : Option Nat := (if p0 < 0 then some 1 else (if p0 ≤ p1 then none else some 1))
set_option maxRecDepth 20000 in
theorem x_X11_needWhat {l : Launch} {D : va_G} {dT : Nat → ClassId} {aK aV : Nat → Nat} {p0 : Int32} {p1 : Int32} {k : Nat} (hl : l.stackTraces = false) (hf : t_X11_needWhat p0 p1 = some k) : CX aK aV l yX11_needWhat cX11_needWhat 2 none ({ frames := 6, cells := 1, slots := 6, locals := 100 } : Room) D dT [.int p0, .int p1] ([]) (nmE k) := by
  refine CX.of (by decide) (Nat.le_of_ble_eq_true rfl) rfl ?_
  intro p e s m args below meth c A C E ht
  unfold t_X11_needWhat at hf
  refine wa_iload_n C 0 1 dX11_needWhat_0 rfl rfl ?_
  refine wa_if_lt C 9 4 dX11_needWhat_1 rfl rfl (fun c1 => ?_) (fun c1 => ?_)
  · replace hf := ite_t hf c1
    cases hf
    exact wx_throw (cls := nmE 1) C E hl ht 23 dX11_needWhat_9 dX11_needWhat_12 (Or.inr ⟨dX11_needWhat_13, rfl⟩) dX11_needWhat_16 dX11_needWhat_19 rfl (by decide) bp1_0 bp1_1 bp1_2 bp1_5 q984 q26 nxt1 (Nat.le_of_ble_eq_true rfl) (Nat.le_of_ble_eq_true rfl) (Nat.le_of_ble_eq_true rfl) (Nat.le_of_ble_eq_true rfl) (Nat.le_of_ble_eq_true rfl) (Nat.le_of_ble_eq_true rfl)
  · replace hf := ite_f hf c1
    refine wa_iload_n C 0 5 dX11_needWhat_4 rfl rfl ?_
    refine wa_iload_n C 1 6 dX11_needWhat_5 rfl rfl ?_
    refine wa_icmp_le C 20 9 dX11_needWhat_6 rfl rfl (fun c2 => ?_) (fun c2 => ?_)
    · replace hf := ite_t hf c2
      cases hf
    · replace hf := ite_f hf c2
      cases hf
      exact wx_throw (cls := nmE 1) C E hl ht 23 dX11_needWhat_9 dX11_needWhat_12 (Or.inr ⟨dX11_needWhat_13, rfl⟩) dX11_needWhat_16 dX11_needWhat_19 rfl (by decide) bp1_0 bp1_1 bp1_2 bp1_5 q984 q26 nxt1 (Nat.le_of_ble_eq_true rfl) (Nat.le_of_ble_eq_true rfl) (Nat.le_of_ble_eq_true rfl) (Nat.le_of_ble_eq_true rfl) (Nat.le_of_ble_eq_true rfl) (Nat.le_of_ble_eq_true rfl)
def t_X11_needWithin (p0 : Int32) (p1 : Int32) (p2 : Int32) : Option Nat := (if p0 < p1 then some 2 else (if p0 ≤ p2 then none else some 2))
set_option maxRecDepth 20000 in
theorem x_X11_needWithin {l : Launch} {D : va_G} {dT : Nat → ClassId} {aK aV : Nat → Nat} {p0 : Int32} {p1 : Int32} {p2 : Int32} {k : Nat} (hl : l.stackTraces = false) (hf : t_X11_needWithin p0 p1 p2 = some k) : CX aK aV l yX11_needWithin cX11_needWithin 3 none ({ frames := 6, cells := 1, slots := 6, locals := 100 } : Room) D dT [.int p0, .int p1, .int p2] ([]) (nmE k) := by
  refine CX.of (by decide) (Nat.le_of_ble_eq_true rfl) rfl ?_
  intro p e s m args below meth c A C E ht
  unfold t_X11_needWithin at hf
  refine wa_iload_n C 0 1 dX11_needWithin_0 rfl rfl ?_
  refine wa_iload_n C 1 2 dX11_needWithin_1 rfl rfl ?_
  refine wa_icmp_lt C 10 5 dX11_needWithin_2 rfl rfl (fun c1 => ?_) (fun c1 => ?_)
  · replace hf := ite_t hf c1
    cases hf
    exact wx_throw (cls := nmE 2) C E hl ht 24 dX11_needWithin_10 dX11_needWithin_13 (Or.inr ⟨dX11_needWithin_14, rfl⟩) dX11_needWithin_17 dX11_needWithin_20 rfl (by decide) bp2_0 bp2_1 bp2_2 bp2_5 q619 q17 nxt2 (Nat.le_of_ble_eq_true rfl) (Nat.le_of_ble_eq_true rfl) (Nat.le_of_ble_eq_true rfl) (Nat.le_of_ble_eq_true rfl) (Nat.le_of_ble_eq_true rfl) (Nat.le_of_ble_eq_true rfl)
  · replace hf := ite_f hf c1
    refine wa_iload_n C 0 6 dX11_needWithin_5 rfl rfl ?_
    refine wa_iload_n C 2 7 dX11_needWithin_6 rfl rfl ?_
    refine wa_icmp_le C 21 10 dX11_needWithin_7 rfl rfl (fun c2 => ?_) (fun c2 => ?_)
    · replace hf := ite_t hf c2
      cases hf
    · replace hf := ite_f hf c2
      cases hf
      exact wx_throw (cls := nmE 2) C E hl ht 24 dX11_needWithin_10 dX11_needWithin_13 (Or.inr ⟨dX11_needWithin_14, rfl⟩) dX11_needWithin_17 dX11_needWithin_20 rfl (by decide) bp2_0 bp2_1 bp2_2 bp2_5 q619 q17 nxt2 (Nat.le_of_ble_eq_true rfl) (Nat.le_of_ble_eq_true rfl) (Nat.le_of_ble_eq_true rfl) (Nat.le_of_ble_eq_true rfl) (Nat.le_of_ble_eq_true rfl) (Nat.le_of_ble_eq_true rfl)
def t_X11_village (v : Ob) (v_fam : FS) (p0 : Int32) : Option Nat := (if p0 < 0 then some 2 else (if p0 ≤ (v.1 1) then none else some 2))
set_option maxRecDepth 20000 in
theorem x_X11_village {l : Launch} {D : va_G} {dT : Nat → ClassId} {aK aV : Nat → Nat} {a : Nat → Nat} {a_fam : Nat → Nat → Nat} {h_tape : Nat} {h_reader : Nat} {h_friends : Nat} {h_dusk : Nat} {h_coming : Nat} {h_acts : Nat} {h_seen : Nat} {h_pairs : Nat} {h_trials : Nat} {h_imageNow : Nat} {h_imageActs : Nat} {h_imageSeen : Nat} {v : Ob} {v_fam : FS} {p0 : Int32} {k : Nat} (hl : l.stackTraces = false) (hf : t_X11_village v v_fam p0 = some k) : CX aK aV l yX11_village cX11_village 3 (some .int) ({ frames := 6, cells := 1, slots := 6, locals := 100 } : Room) D dT [.ref (a 0), .int p0] ([wH dT a h_tape h_reader h_friends h_dusk (a_fam 0 0) h_coming h_acts h_seen h_pairs h_trials h_imageNow h_imageActs h_imageSeen v, wRw dT v_fam.1 a_fam v_fam.2.2]) (nmE k) := by
  refine CX.of (by decide) (Nat.le_of_ble_eq_true rfl) rfl ?_
  intro p e s m args below meth c A C E ht
  unfold t_X11_village at hf
  refine wa_iload_n C 1 1 dX11_village_0 rfl rfl ?_
  refine wa_if_lt C 12 4 dX11_village_1 rfl rfl (fun c1 => ?_) (fun c1 => ?_)
  · replace hf := ite_t hf c1
    cases hf
    exact wx_throw (cls := nmE 2) C E hl ht 0 dX11_village_12 dX11_village_15 (Or.inl ⟨dX11_village_16, rfl⟩) dX11_village_18 dX11_village_21 rfl (by decide) bp2_0 bp2_1 bp2_2 bp2_5 q619 q17 nxt2 (Nat.le_of_ble_eq_true rfl) (Nat.le_of_ble_eq_true rfl) (Nat.le_of_ble_eq_true rfl) (Nat.le_of_ble_eq_true rfl) (Nat.le_of_ble_eq_true rfl) (Nat.le_of_ble_eq_true rfl)
  · replace hf := ite_f hf c1
    refine wa_iload_n C 1 5 dX11_village_4 rfl rfl ?_
    refine wa_aload_n C 0 6 dX11_village_5 rfl rfl ?_
    refine wa_get C 9 0 0 1 dX11_village_6 rfl iX11 q358 rfl (Nat.le_of_ble_eq_true rfl) rfl rfl rfl ?_
    refine wa_icmp_le C 22 12 dX11_village_9 rfl rfl (fun c2 => ?_) (fun c2 => ?_)
    · replace hf := ite_t hf c2
      refine wa_aload_n C 0 23 dX11_village_22 rfl rfl ?_
      cases hf
    · replace hf := ite_f hf c2
      cases hf
      exact wx_throw (cls := nmE 2) C E hl ht 0 dX11_village_12 dX11_village_15 (Or.inl ⟨dX11_village_16, rfl⟩) dX11_village_18 dX11_village_21 rfl (by decide) bp2_0 bp2_1 bp2_2 bp2_5 q619 q17 nxt2 (Nat.le_of_ble_eq_true rfl) (Nat.le_of_ble_eq_true rfl) (Nat.le_of_ble_eq_true rfl) (Nat.le_of_ble_eq_true rfl) (Nat.le_of_ble_eq_true rfl) (Nat.le_of_ble_eq_true rfl)
def t_X11_count (v : Ob) (v_fam : FS) (p0 : Int32) : Option Nat := (if p0 = 0 then none else (if p0 = 1 then none else (if p0 = 2 then none else (if p0 = 3 then none else (if p0 = 4 then none else (if p0 = 5 then none else (if p0 = 6 then none else (if p0 = 7 then none else (if p0 = 8 then none else (if p0 = 9 then none else (if p0 = 10 then none else (if p0 = 11 then none else (if p0 = 12 then none else (if p0 = 13 then none else (if p0 = 14 then none else (if p0 = 15 then none else (if p0 = 16 then none else some 1)))))))))))))))))
set_option maxRecDepth 20000 in
theorem x_X11_count {l : Launch} {D : va_G} {dT : Nat → ClassId} {aK aV : Nat → Nat} {a : Nat → Nat} {a_fam : Nat → Nat → Nat} {h_tape : Nat} {h_reader : Nat} {h_friends : Nat} {h_dusk : Nat} {h_coming : Nat} {h_acts : Nat} {h_seen : Nat} {h_pairs : Nat} {h_trials : Nat} {h_imageNow : Nat} {h_imageActs : Nat} {h_imageSeen : Nat} {v : Ob} {v_fam : FS} {p0 : Int32} {k : Nat} (hl : l.stackTraces = false) (hf : t_X11_count v v_fam p0 = some k) : CX aK aV l yX11_count cX11_count 2 (some .int) ({ frames := 6, cells := 1, slots := 6, locals := 100 } : Room) D dT [.ref (a 0), .int p0] ([wH dT a h_tape h_reader h_friends h_dusk (a_fam 0 0) h_coming h_acts h_seen h_pairs h_trials h_imageNow h_imageActs h_imageSeen v, wRw dT v_fam.1 a_fam v_fam.2.2]) (nmE k) := by
  refine CX.of (by decide) (Nat.le_of_ble_eq_true rfl) rfl ?_
  intro p e s m args below meth c A C E ht
  unfold t_X11_count at hf
  refine wa_iload_n C 1 1 dX11_count_0 rfl rfl ?_
  by_cases c1 : p0 = 0
  · replace hf := ite_t hf c1
    cases hf
  · replace hf := ite_f hf c1
    by_cases c2 : p0 = 1
    · replace hf := ite_t hf c2
      cases hf
    · replace hf := ite_f hf c2
      by_cases c3 : p0 = 2
      · replace hf := ite_t hf c3
        cases hf
      · replace hf := ite_f hf c3
        by_cases c4 : p0 = 3
        · replace hf := ite_t hf c4
          cases hf
        · replace hf := ite_f hf c4
          by_cases c5 : p0 = 4
          · replace hf := ite_t hf c5
            cases hf
          · replace hf := ite_f hf c5
            by_cases c6 : p0 = 5
            · replace hf := ite_t hf c6
              cases hf
            · replace hf := ite_f hf c6
              by_cases c7 : p0 = 6
              · replace hf := ite_t hf c7
                cases hf
              · replace hf := ite_f hf c7
                by_cases c8 : p0 = 7
                · replace hf := ite_t hf c8
                  cases hf
                · replace hf := ite_f hf c8
                  by_cases c9 : p0 = 8
                  · replace hf := ite_t hf c9
                    cases hf
                  · replace hf := ite_f hf c9
                    by_cases c10 : p0 = 9
                    · replace hf := ite_t hf c10
                      cases hf
                    · replace hf := ite_f hf c10
                      by_cases c11 : p0 = 10
                      · replace hf := ite_t hf c11
                        cases hf
                      · replace hf := ite_f hf c11
                        by_cases c12 : p0 = 11
                        · replace hf := ite_t hf c12
                          cases hf
                        · replace hf := ite_f hf c12
                          by_cases c13 : p0 = 12
                          · replace hf := ite_t hf c13
                            cases hf
                          · replace hf := ite_f hf c13
                            by_cases c14 : p0 = 13
                            · replace hf := ite_t hf c14
                              cases hf
                            · replace hf := ite_f hf c14
                              by_cases c15 : p0 = 14
                              · replace hf := ite_t hf c15
                                cases hf
                              · replace hf := ite_f hf c15
                                by_cases c16 : p0 = 15
                                · replace hf := ite_t hf c16
                                  cases hf
                                · replace hf := ite_f hf c16
                                  by_cases c17 : p0 = 16
                                  · replace hf := ite_t hf c17
                                    cases hf
                                  · replace hf := ite_f hf c17
                                    refine wa_tsd C 241 dX11_count_1 (ts_out (0) 17 (nts_s (nts_s (nts_s (nts_s (nts_s (nts_s (nts_s (nts_s (nts_s (nts_s (nts_s (nts_s (nts_s (nts_s (nts_s (nts_s (nts_s nts_0 rfl c1) rfl c2) rfl c3) rfl c4) rfl c5) rfl c6) rfl c7) rfl c8) rfl c9) rfl c10) rfl c11) rfl c12) rfl c13) rfl c14) rfl c15) rfl c16) rfl c17)) rfl ?_
                                    cases hf
                                    exact wx_throw (cls := nmE 1) C E hl ht 18 dX11_count_241 dX11_count_244 (Or.inl ⟨dX11_count_245, rfl⟩) dX11_count_247 dX11_count_250 rfl (by decide) bp1_0 bp1_1 bp1_2 bp1_5 q984 q26 nxt1 (Nat.le_of_ble_eq_true rfl) (Nat.le_of_ble_eq_true rfl) (Nat.le_of_ble_eq_true rfl) (Nat.le_of_ble_eq_true rfl) (Nat.le_of_ble_eq_true rfl) (Nat.le_of_ble_eq_true rfl)
def t_X11_person (v : Ob) (v_fam : FS) (p0 : Int32) (p1 : Int32) : Option Nat := (match t_X11_needPerson v v_fam p0 with | some k1 => some k1 | none => (f_X11_needPerson v v_fam p0).bind (fun q2 => (if p1 = 0 then none else (if p1 = 1 then none else (if p1 = 2 then none else (if p1 = 3 then none else (if p1 = 4 then none else (if p1 = 5 then none else (if p1 = 6 then none else (if p1 = 7 then none else (if p1 = 8 then none else some 1)))))))))))
set_option maxRecDepth 20000 in
theorem x_X11_person {l : Launch} {D : va_G} {dT : Nat → ClassId} {aK aV : Nat → Nat} {a : Nat → Nat} {a_fam : Nat → Nat → Nat} {h_tape : Nat} {h_reader : Nat} {h_friends : Nat} {h_dusk : Nat} {h_coming : Nat} {h_acts : Nat} {h_seen : Nat} {h_pairs : Nat} {h_trials : Nat} {h_imageNow : Nat} {h_imageActs : Nat} {h_imageSeen : Nat} {v : Ob} {v_fam : FS} {p0 : Int32} {p1 : Int32} {k : Nat} (hl : l.stackTraces = false) (hf : t_X11_person v v_fam p0 p1 = some k) : CX aK aV l yX11_person cX11_person 3 (some .int) ({ frames := 7, cells := 1, slots := 6, locals := 121 } : Room) D dT [.ref (a 0), .int p0, .int p1] ([wH dT a h_tape h_reader h_friends h_dusk (a_fam 0 0) h_coming h_acts h_seen h_pairs h_trials h_imageNow h_imageActs h_imageSeen v, wRw dT v_fam.1 a_fam v_fam.2.2]) (nmE k) := by
  refine CX.of (by decide) (Nat.le_of_ble_eq_true rfl) rfl ?_
  intro p e s m args below meth c A C E ht
  unfold t_X11_person at hf
  refine wa_aload_n C 0 1 dX11_person_0 rfl rfl ?_
  refine wa_iload_n C 1 2 dX11_person_1 rfl rfl ?_
  cases hk1 : t_X11_needPerson v v_fam p0 with
  | some k1 =>
    rw [hk1] at hf
    cases hf
    exact wx_callV (b1 := 0) (q1 := 0) (ci := 11) (As := [.int p0]) C E ht dX11_person_2 kv_X11_193 (x_X11_needPerson hl hk1) ⟨rfl, rfl⟩ ⟨Nat.le_of_ble_eq_true rfl, Nat.le_of_ble_eq_true rfl⟩ rfl rfl rfl [0, 1] [] [0, 1] rfl rfl rfl rfl (by decide) rfl rfl rfl rfl ⟨Nat.le_of_ble_eq_true rfl, Nat.le_of_ble_eq_true rfl⟩ (Nat.le_of_ble_eq_true rfl) (Nat.le_of_ble_eq_true rfl) (Nat.le_of_ble_eq_true rfl)
  | none =>
    rw [hk1] at hf
    obtain ⟨q2, hq2, hf⟩ := bind_ex hf
    refine wa_callVAv (b1 := 0) (q1 := 0) (ci := 11) (As := [.int p0]) C 5 dX11_person_2 rfl kv_X11_193 (c_X11_needPerson hq2) ⟨rfl, rfl⟩ ⟨Nat.le_of_ble_eq_true rfl, Nat.le_of_ble_eq_true rfl⟩ rfl rfl rfl rfl rfl ⟨Nat.zero_le _, Nat.zero_le _⟩ (Nat.le_of_ble_eq_true rfl) ?_
    refine wa_iload_n C 2 6 dX11_person_5 rfl rfl ?_
    by_cases c3 : p1 = 0
    · replace hf := ite_t hf c3
      cases hf
    · replace hf := ite_f hf c3
      by_cases c4 : p1 = 1
      · replace hf := ite_t hf c4
        cases hf
      · replace hf := ite_f hf c4
        by_cases c5 : p1 = 2
        · replace hf := ite_t hf c5
          cases hf
        · replace hf := ite_f hf c5
          by_cases c6 : p1 = 3
          · replace hf := ite_t hf c6
            cases hf
          · replace hf := ite_f hf c6
            by_cases c7 : p1 = 4
            · replace hf := ite_t hf c7
              cases hf
            · replace hf := ite_f hf c7
              by_cases c8 : p1 = 5
              · replace hf := ite_t hf c8
                cases hf
              · replace hf := ite_f hf c8
                by_cases c9 : p1 = 6
                · replace hf := ite_t hf c9
                  cases hf
                · replace hf := ite_f hf c9
                  by_cases c10 : p1 = 7
                  · replace hf := ite_t hf c10
                    cases hf
                  · replace hf := ite_f hf c10
                    by_cases c11 : p1 = 8
                    · replace hf := ite_t hf c11
                      cases hf
                    · replace hf := ite_f hf c11
                      refine wa_tsd C 166 dX11_person_6 (ts_out (0) 9 (nts_s (nts_s (nts_s (nts_s (nts_s (nts_s (nts_s (nts_s (nts_s nts_0 rfl c3) rfl c4) rfl c5) rfl c6) rfl c7) rfl c8) rfl c9) rfl c10) rfl c11)) rfl ?_
                      cases hf
                      exact wx_throw (cls := nmE 1) C E hl ht 20 dX11_person_166 dX11_person_169 (Or.inl ⟨dX11_person_170, rfl⟩) dX11_person_172 dX11_person_175 rfl (by decide) bp1_0 bp1_1 bp1_2 bp1_5 q984 q26 nxt1 (Nat.le_of_ble_eq_true rfl) (Nat.le_of_ble_eq_true rfl) (Nat.le_of_ble_eq_true rfl) (Nat.le_of_ble_eq_true rfl) (Nat.le_of_ble_eq_true rfl) (Nat.le_of_ble_eq_true rfl)
def t_X11_house (v : Ob) (v_fam : FS) (p0 : Int32) (p1 : Int32) : Option Nat := (match t_X11_needHouse v v_fam p0 with | some k1 => some k1 | none => (f_X11_needHouse v v_fam p0).bind (fun q2 => (if p1 = 0 then none else (if p1 = 1 then none else (if p1 = 2 then none else (if p1 = 3 then none else (if p1 = 4 then none else (if p1 = 5 then none else (if p1 = 6 then none else some 1)))))))))
set_option maxRecDepth 20000 in
theorem x_X11_house {l : Launch} {D : va_G} {dT : Nat → ClassId} {aK aV : Nat → Nat} {a : Nat → Nat} {a_fam : Nat → Nat → Nat} {h_tape : Nat} {h_reader : Nat} {h_friends : Nat} {h_dusk : Nat} {h_coming : Nat} {h_acts : Nat} {h_seen : Nat} {h_pairs : Nat} {h_trials : Nat} {h_imageNow : Nat} {h_imageActs : Nat} {h_imageSeen : Nat} {v : Ob} {v_fam : FS} {p0 : Int32} {p1 : Int32} {k : Nat} (hl : l.stackTraces = false) (hf : t_X11_house v v_fam p0 p1 = some k) : CX aK aV l yX11_house cX11_house 3 (some .int) ({ frames := 7, cells := 1, slots := 6, locals := 121 } : Room) D dT [.ref (a 0), .int p0, .int p1] ([wH dT a h_tape h_reader h_friends h_dusk (a_fam 0 0) h_coming h_acts h_seen h_pairs h_trials h_imageNow h_imageActs h_imageSeen v, wRw dT v_fam.1 a_fam v_fam.2.2]) (nmE k) := by
  refine CX.of (by decide) (Nat.le_of_ble_eq_true rfl) rfl ?_
  intro p e s m args below meth c A C E ht
  unfold t_X11_house at hf
  refine wa_aload_n C 0 1 dX11_house_0 rfl rfl ?_
  refine wa_iload_n C 1 2 dX11_house_1 rfl rfl ?_
  cases hk1 : t_X11_needHouse v v_fam p0 with
  | some k1 =>
    rw [hk1] at hf
    cases hf
    exact wx_callV (b1 := 0) (q1 := 0) (ci := 11) (As := [.int p0]) C E ht dX11_house_2 kv_X11_225 (x_X11_needHouse hl hk1) ⟨rfl, rfl⟩ ⟨Nat.le_of_ble_eq_true rfl, Nat.le_of_ble_eq_true rfl⟩ rfl rfl rfl [0, 1] [] [0, 1] rfl rfl rfl rfl (by decide) rfl rfl rfl rfl ⟨Nat.le_of_ble_eq_true rfl, Nat.le_of_ble_eq_true rfl⟩ (Nat.le_of_ble_eq_true rfl) (Nat.le_of_ble_eq_true rfl) (Nat.le_of_ble_eq_true rfl)
  | none =>
    rw [hk1] at hf
    obtain ⟨q2, hq2, hf⟩ := bind_ex hf
    refine wa_callVAv (b1 := 0) (q1 := 0) (ci := 11) (As := [.int p0]) C 5 dX11_house_2 rfl kv_X11_225 (c_X11_needHouse hq2) ⟨rfl, rfl⟩ ⟨Nat.le_of_ble_eq_true rfl, Nat.le_of_ble_eq_true rfl⟩ rfl rfl rfl rfl rfl ⟨Nat.zero_le _, Nat.zero_le _⟩ (Nat.le_of_ble_eq_true rfl) ?_
    refine wa_iload_n C 2 6 dX11_house_5 rfl rfl ?_
    by_cases c3 : p1 = 0
    · replace hf := ite_t hf c3
      cases hf
    · replace hf := ite_f hf c3
      by_cases c4 : p1 = 1
      · replace hf := ite_t hf c4
        cases hf
      · replace hf := ite_f hf c4
        by_cases c5 : p1 = 2
        · replace hf := ite_t hf c5
          cases hf
        · replace hf := ite_f hf c5
          by_cases c6 : p1 = 3
          · replace hf := ite_t hf c6
            cases hf
          · replace hf := ite_f hf c6
            by_cases c7 : p1 = 4
            · replace hf := ite_t hf c7
              cases hf
            · replace hf := ite_f hf c7
              by_cases c8 : p1 = 5
              · replace hf := ite_t hf c8
                cases hf
              · replace hf := ite_f hf c8
                by_cases c9 : p1 = 6
                · replace hf := ite_t hf c9
                  cases hf
                · replace hf := ite_f hf c9
                  refine wa_tsd C 128 dX11_house_6 (ts_out (0) 7 (nts_s (nts_s (nts_s (nts_s (nts_s (nts_s (nts_s nts_0 rfl c3) rfl c4) rfl c5) rfl c6) rfl c7) rfl c8) rfl c9)) rfl ?_
                  cases hf
                  exact wx_throw (cls := nmE 1) C E hl ht 22 dX11_house_128 dX11_house_131 (Or.inl ⟨dX11_house_132, rfl⟩) dX11_house_134 dX11_house_137 rfl (by decide) bp1_0 bp1_1 bp1_2 bp1_5 q984 q26 nxt1 (Nat.le_of_ble_eq_true rfl) (Nat.le_of_ble_eq_true rfl) (Nat.le_of_ble_eq_true rfl) (Nat.le_of_ble_eq_true rfl) (Nat.le_of_ble_eq_true rfl) (Nat.le_of_ble_eq_true rfl)
def t_X11_move (v : Ob) (v_fam : FS) (p0 : Int32) (p1 : Int32) : Option Nat := (match t_X11_needPerson v v_fam p0 with | some k1 => some k1 | none => (f_X11_needPerson v v_fam p0).bind (fun q2 => (match t_X11_needHouse v v_fam p1 with | some k3 => some k3 | none => (f_X11_needHouse v v_fam p1).bind (fun q4 => none))))
set_option maxRecDepth 20000 in
theorem x_X11_move {l : Launch} {D : va_G} {dT : Nat → ClassId} {aK aV : Nat → Nat} {a : Nat → Nat} {a_fam : Nat → Nat → Nat} {h_tape : Nat} {h_reader : Nat} {h_friends : Nat} {h_dusk : Nat} {h_coming : Nat} {h_acts : Nat} {h_seen : Nat} {h_pairs : Nat} {h_trials : Nat} {h_imageNow : Nat} {h_imageActs : Nat} {h_imageSeen : Nat} {v : Ob} {v_fam : FS} {p0 : Int32} {p1 : Int32} {k : Nat} (hl : l.stackTraces = false) (hf : t_X11_move v v_fam p0 p1 = some k) : CX aK aV l yX11_move cX11_move 4 (some .int) ({ frames := 7, cells := 1, slots := 6, locals := 121 } : Room) D dT [.ref (a 0), .int p0, .int p1] ([wH dT a h_tape h_reader h_friends h_dusk (a_fam 0 0) h_coming h_acts h_seen h_pairs h_trials h_imageNow h_imageActs h_imageSeen v, wRw dT v_fam.1 a_fam v_fam.2.2]) (nmE k) := by
  refine CX.of (by decide) (Nat.le_of_ble_eq_true rfl) rfl ?_
  intro p e s m args below meth c A C E ht
  unfold t_X11_move at hf
  refine wa_aload_n C 0 1 dX11_move_0 rfl rfl ?_
  refine wa_iload_n C 1 2 dX11_move_1 rfl rfl ?_
  cases hk1 : t_X11_needPerson v v_fam p0 with
  | some k1 =>
    rw [hk1] at hf
    cases hf
    exact wx_callV (b1 := 0) (q1 := 0) (ci := 11) (As := [.int p0]) C E ht dX11_move_2 kv_X11_193 (x_X11_needPerson hl hk1) ⟨rfl, rfl⟩ ⟨Nat.le_of_ble_eq_true rfl, Nat.le_of_ble_eq_true rfl⟩ rfl rfl rfl [0, 1] [] [0, 1] rfl rfl rfl rfl (by decide) rfl rfl rfl rfl ⟨Nat.le_of_ble_eq_true rfl, Nat.le_of_ble_eq_true rfl⟩ (Nat.le_of_ble_eq_true rfl) (Nat.le_of_ble_eq_true rfl) (Nat.le_of_ble_eq_true rfl)
  | none =>
    rw [hk1] at hf
    obtain ⟨q2, hq2, hf⟩ := bind_ex hf
    refine wa_callVAv (b1 := 0) (q1 := 0) (ci := 11) (As := [.int p0]) C 5 dX11_move_2 rfl kv_X11_193 (c_X11_needPerson hq2) ⟨rfl, rfl⟩ ⟨Nat.le_of_ble_eq_true rfl, Nat.le_of_ble_eq_true rfl⟩ rfl rfl rfl rfl rfl ⟨Nat.zero_le _, Nat.zero_le _⟩ (Nat.le_of_ble_eq_true rfl) ?_
    refine wa_aload_n C 0 6 dX11_move_5 rfl rfl ?_
    refine wa_iload_n C 2 7 dX11_move_6 rfl rfl ?_
    cases hk3 : t_X11_needHouse v v_fam p1 with
    | some k3 =>
      rw [hk3] at hf
      cases hf
      exact wx_callV (b1 := 0) (q1 := 0) (ci := 11) (As := [.int p1]) C E ht dX11_move_7 kv_X11_225 (x_X11_needHouse hl hk3) ⟨rfl, rfl⟩ ⟨Nat.le_of_ble_eq_true rfl, Nat.le_of_ble_eq_true rfl⟩ rfl rfl rfl [0, 1] [] [0, 1] rfl rfl rfl rfl (by decide) rfl rfl rfl rfl ⟨Nat.le_of_ble_eq_true rfl, Nat.le_of_ble_eq_true rfl⟩ (Nat.le_of_ble_eq_true rfl) (Nat.le_of_ble_eq_true rfl) (Nat.le_of_ble_eq_true rfl)
    | none =>
      rw [hk3] at hf
      obtain ⟨q4, hq4, hf⟩ := bind_ex hf
      refine wa_callVAv (b1 := 0) (q1 := 0) (ci := 11) (As := [.int p1]) C 10 dX11_move_7 rfl kv_X11_225 (c_X11_needHouse hq4) ⟨rfl, rfl⟩ ⟨Nat.le_of_ble_eq_true rfl, Nat.le_of_ble_eq_true rfl⟩ rfl rfl rfl rfl rfl ⟨Nat.zero_le _, Nat.zero_le _⟩ (Nat.le_of_ble_eq_true rfl) ?_
      refine wa_aload_n C 0 11 dX11_move_10 rfl rfl ?_
      refine wa_get C 14 0 0 7 dX11_move_11 rfl iX11 q364 rfl (Nat.le_of_ble_eq_true rfl) rfl rfl rfl ?_
      cases hf
def t_X11_found (v : Ob) (v_fam : FS) (p0 : Int32) : Option Nat := (match t_X11_needPerson v v_fam p0 with | some k1 => some k1 | none => (f_X11_needPerson v v_fam p0).bind (fun q2 => none))
set_option maxRecDepth 20000 in
theorem x_X11_found {l : Launch} {D : va_G} {dT : Nat → ClassId} {aK aV : Nat → Nat} {a : Nat → Nat} {a_fam : Nat → Nat → Nat} {h_tape : Nat} {h_reader : Nat} {h_friends : Nat} {h_dusk : Nat} {h_coming : Nat} {h_acts : Nat} {h_seen : Nat} {h_pairs : Nat} {h_trials : Nat} {h_imageNow : Nat} {h_imageActs : Nat} {h_imageSeen : Nat} {v : Ob} {v_fam : FS} {p0 : Int32} {k : Nat} (hl : l.stackTraces = false) (hf : t_X11_found v v_fam p0 = some k) : CX aK aV l yX11_found cX11_found 2 (some .int) ({ frames := 7, cells := 1, slots := 6, locals := 121 } : Room) D dT [.ref (a 0), .int p0] ([wH dT a h_tape h_reader h_friends h_dusk (a_fam 0 0) h_coming h_acts h_seen h_pairs h_trials h_imageNow h_imageActs h_imageSeen v, wRw dT v_fam.1 a_fam v_fam.2.2]) (nmE k) := by
  refine CX.of (by decide) (Nat.le_of_ble_eq_true rfl) rfl ?_
  intro p e s m args below meth c A C E ht
  unfold t_X11_found at hf
  refine wa_aload_n C 0 1 dX11_found_0 rfl rfl ?_
  refine wa_iload_n C 1 2 dX11_found_1 rfl rfl ?_
  cases hk1 : t_X11_needPerson v v_fam p0 with
  | some k1 =>
    rw [hk1] at hf
    cases hf
    exact wx_callV (b1 := 0) (q1 := 0) (ci := 11) (As := [.int p0]) C E ht dX11_found_2 kv_X11_193 (x_X11_needPerson hl hk1) ⟨rfl, rfl⟩ ⟨Nat.le_of_ble_eq_true rfl, Nat.le_of_ble_eq_true rfl⟩ rfl rfl rfl [0, 1] [] [0, 1] rfl rfl rfl rfl (by decide) rfl rfl rfl rfl ⟨Nat.le_of_ble_eq_true rfl, Nat.le_of_ble_eq_true rfl⟩ (Nat.le_of_ble_eq_true rfl) (Nat.le_of_ble_eq_true rfl) (Nat.le_of_ble_eq_true rfl)
  | none =>
    rw [hk1] at hf
    obtain ⟨q2, hq2, hf⟩ := bind_ex hf
    refine wa_callVAv (b1 := 0) (q1 := 0) (ci := 11) (As := [.int p0]) C 5 dX11_found_2 rfl kv_X11_193 (c_X11_needPerson hq2) ⟨rfl, rfl⟩ ⟨Nat.le_of_ble_eq_true rfl, Nat.le_of_ble_eq_true rfl⟩ rfl rfl rfl rfl rfl ⟨Nat.zero_le _, Nat.zero_le _⟩ (Nat.le_of_ble_eq_true rfl) ?_
    refine wa_aload_n C 0 6 dX11_found_5 rfl rfl ?_
    refine wa_get C 9 0 0 7 dX11_found_6 rfl iX11 q364 rfl (Nat.le_of_ble_eq_true rfl) rfl rfl rfl ?_
    refine wa_iload_n C 1 10 dX11_found_9 rfl rfl ?_
    cases hf
def t_X11_join (v : Ob) (v_fam : FS) (p0 : Int32) (p1 : Int32) : Option Nat := (match t_X11_needHouse v v_fam p0 with | some k1 => some k1 | none => (f_X11_needHouse v v_fam p0).bind (fun q2 => (match t_X11_needHouse v v_fam p1 with | some k3 => some k3 | none => (f_X11_needHouse v v_fam p1).bind (fun q4 => (if p0 = p1 then none else none)))))
set_option maxRecDepth 20000 in
theorem x_X11_join {l : Launch} {D : va_G} {dT : Nat → ClassId} {aK aV : Nat → Nat} {a : Nat → Nat} {a_fam : Nat → Nat → Nat} {h_tape : Nat} {h_reader : Nat} {h_friends : Nat} {h_dusk : Nat} {h_coming : Nat} {h_acts : Nat} {h_seen : Nat} {h_pairs : Nat} {h_trials : Nat} {h_imageNow : Nat} {h_imageActs : Nat} {h_imageSeen : Nat} {v : Ob} {v_fam : FS} {p0 : Int32} {p1 : Int32} {k : Nat} (hl : l.stackTraces = false) (hf : t_X11_join v v_fam p0 p1 = some k) : CX aK aV l yX11_join cX11_join 4 (some .int) ({ frames := 7, cells := 1, slots := 6, locals := 121 } : Room) D dT [.ref (a 0), .int p0, .int p1] ([wH dT a h_tape h_reader h_friends h_dusk (a_fam 0 0) h_coming h_acts h_seen h_pairs h_trials h_imageNow h_imageActs h_imageSeen v, wRw dT v_fam.1 a_fam v_fam.2.2]) (nmE k) := by
  refine CX.of (by decide) (Nat.le_of_ble_eq_true rfl) rfl ?_
  intro p e s m args below meth c A C E ht
  unfold t_X11_join at hf
  refine wa_aload_n C 0 1 dX11_join_0 rfl rfl ?_
  refine wa_iload_n C 1 2 dX11_join_1 rfl rfl ?_
  cases hk1 : t_X11_needHouse v v_fam p0 with
  | some k1 =>
    rw [hk1] at hf
    cases hf
    exact wx_callV (b1 := 0) (q1 := 0) (ci := 11) (As := [.int p0]) C E ht dX11_join_2 kv_X11_225 (x_X11_needHouse hl hk1) ⟨rfl, rfl⟩ ⟨Nat.le_of_ble_eq_true rfl, Nat.le_of_ble_eq_true rfl⟩ rfl rfl rfl [0, 1] [] [0, 1] rfl rfl rfl rfl (by decide) rfl rfl rfl rfl ⟨Nat.le_of_ble_eq_true rfl, Nat.le_of_ble_eq_true rfl⟩ (Nat.le_of_ble_eq_true rfl) (Nat.le_of_ble_eq_true rfl) (Nat.le_of_ble_eq_true rfl)
  | none =>
    rw [hk1] at hf
    obtain ⟨q2, hq2, hf⟩ := bind_ex hf
    refine wa_callVAv (b1 := 0) (q1 := 0) (ci := 11) (As := [.int p0]) C 5 dX11_join_2 rfl kv_X11_225 (c_X11_needHouse hq2) ⟨rfl, rfl⟩ ⟨Nat.le_of_ble_eq_true rfl, Nat.le_of_ble_eq_true rfl⟩ rfl rfl rfl rfl rfl ⟨Nat.zero_le _, Nat.zero_le _⟩ (Nat.le_of_ble_eq_true rfl) ?_
    refine wa_aload_n C 0 6 dX11_join_5 rfl rfl ?_
    refine wa_iload_n C 2 7 dX11_join_6 rfl rfl ?_
    cases hk3 : t_X11_needHouse v v_fam p1 with
    | some k3 =>
      rw [hk3] at hf
      cases hf
      exact wx_callV (b1 := 0) (q1 := 0) (ci := 11) (As := [.int p1]) C E ht dX11_join_7 kv_X11_225 (x_X11_needHouse hl hk3) ⟨rfl, rfl⟩ ⟨Nat.le_of_ble_eq_true rfl, Nat.le_of_ble_eq_true rfl⟩ rfl rfl rfl [0, 1] [] [0, 1] rfl rfl rfl rfl (by decide) rfl rfl rfl rfl ⟨Nat.le_of_ble_eq_true rfl, Nat.le_of_ble_eq_true rfl⟩ (Nat.le_of_ble_eq_true rfl) (Nat.le_of_ble_eq_true rfl) (Nat.le_of_ble_eq_true rfl)
    | none =>
      rw [hk3] at hf
      obtain ⟨q4, hq4, hf⟩ := bind_ex hf
      refine wa_callVAv (b1 := 0) (q1 := 0) (ci := 11) (As := [.int p1]) C 10 dX11_join_7 rfl kv_X11_225 (c_X11_needHouse hq4) ⟨rfl, rfl⟩ ⟨Nat.le_of_ble_eq_true rfl, Nat.le_of_ble_eq_true rfl⟩ rfl rfl rfl rfl rfl ⟨Nat.zero_le _, Nat.zero_le _⟩ (Nat.le_of_ble_eq_true rfl) ?_
      refine wa_iload_n C 1 11 dX11_join_10 rfl rfl ?_
      refine wa_iload_n C 2 12 dX11_join_11 rfl rfl ?_
      refine wa_icmp_ne C 21 15 dX11_join_12 rfl rfl (fun c5 => ?_) (fun c5 => ?_)
      · replace hf := ite_f hf c5
        refine wa_aload_n C 0 22 dX11_join_21 rfl rfl ?_
        refine wa_get C 25 0 0 7 dX11_join_22 rfl iX11 q364 rfl (Nat.le_of_ble_eq_true rfl) rfl rfl rfl ?_
        cases hf
      · replace hf := ite_t hf c5
        refine wa_aload_n C 0 16 dX11_join_15 rfl rfl ?_
        refine wa_iconst (v := 1) C 17 dX11_join_16 rfl rfl ?_
        cases hf
def t_X11_rank (v : Ob) (v_fam : FS) (p0 : Int32) (p1 : Int32) : Option Nat := (match t_X11_needPerson v v_fam p0 with | some k1 => some k1 | none => (f_X11_needPerson v v_fam p0).bind (fun q2 => none))
set_option maxRecDepth 20000 in
theorem x_X11_rank {l : Launch} {D : va_G} {dT : Nat → ClassId} {aK aV : Nat → Nat} {a : Nat → Nat} {a_fam : Nat → Nat → Nat} {h_tape : Nat} {h_reader : Nat} {h_friends : Nat} {h_dusk : Nat} {h_coming : Nat} {h_acts : Nat} {h_seen : Nat} {h_pairs : Nat} {h_trials : Nat} {h_imageNow : Nat} {h_imageActs : Nat} {h_imageSeen : Nat} {v : Ob} {v_fam : FS} {p0 : Int32} {p1 : Int32} {k : Nat} (hl : l.stackTraces = false) (hf : t_X11_rank v v_fam p0 p1 = some k) : CX aK aV l yX11_rank cX11_rank 4 (some .int) ({ frames := 7, cells := 1, slots := 6, locals := 121 } : Room) D dT [.ref (a 0), .int p0, .int p1] ([wH dT a h_tape h_reader h_friends h_dusk (a_fam 0 0) h_coming h_acts h_seen h_pairs h_trials h_imageNow h_imageActs h_imageSeen v, wRw dT v_fam.1 a_fam v_fam.2.2]) (nmE k) := by
  refine CX.of (by decide) (Nat.le_of_ble_eq_true rfl) rfl ?_
  intro p e s m args below meth c A C E ht
  unfold t_X11_rank at hf
  refine wa_aload_n C 0 1 dX11_rank_0 rfl rfl ?_
  refine wa_iload_n C 1 2 dX11_rank_1 rfl rfl ?_
  cases hk1 : t_X11_needPerson v v_fam p0 with
  | some k1 =>
    rw [hk1] at hf
    cases hf
    exact wx_callV (b1 := 0) (q1 := 0) (ci := 11) (As := [.int p0]) C E ht dX11_rank_2 kv_X11_193 (x_X11_needPerson hl hk1) ⟨rfl, rfl⟩ ⟨Nat.le_of_ble_eq_true rfl, Nat.le_of_ble_eq_true rfl⟩ rfl rfl rfl [0, 1] [] [0, 1] rfl rfl rfl rfl (by decide) rfl rfl rfl rfl ⟨Nat.le_of_ble_eq_true rfl, Nat.le_of_ble_eq_true rfl⟩ (Nat.le_of_ble_eq_true rfl) (Nat.le_of_ble_eq_true rfl) (Nat.le_of_ble_eq_true rfl)
  | none =>
    rw [hk1] at hf
    obtain ⟨q2, hq2, hf⟩ := bind_ex hf
    refine wa_callVAv (b1 := 0) (q1 := 0) (ci := 11) (As := [.int p0]) C 5 dX11_rank_2 rfl kv_X11_193 (c_X11_needPerson hq2) ⟨rfl, rfl⟩ ⟨Nat.le_of_ble_eq_true rfl, Nat.le_of_ble_eq_true rfl⟩ rfl rfl rfl rfl rfl ⟨Nat.zero_le _, Nat.zero_le _⟩ (Nat.le_of_ble_eq_true rfl) ?_
    refine wa_aload_n C 0 6 dX11_rank_5 rfl rfl ?_
    refine wa_get C 9 0 0 7 dX11_rank_6 rfl iX11 q364 rfl (Nat.le_of_ble_eq_true rfl) rfl rfl rfl ?_
    cases hf
def t_X11_then (v : Ob) (v_fam : FS) (p0 : Int32) (p1 : Int32) (p2 : Int32) : Option Nat := (match t_X11_needPerson v v_fam p0 with | some k1 => some k1 | none => (f_X11_needPerson v v_fam p0).bind (fun q2 => (match t_X11_needWhat p2 (3 : Int32) with | some k3 => some k3 | none => (f_X11_needWhat p2 (3 : Int32)).bind (fun q4 => (match t_X11_needWithin p1 (0 : Int32) (100 : Int32) with | some k5 => some k5 | none => (f_X11_needWithin p1 (0 : Int32) (100 : Int32)).bind (fun q6 => none))))))
set_option maxRecDepth 20000 in
theorem x_X11_then {l : Launch} {D : va_G} {dT : Nat → ClassId} {aK aV : Nat → Nat} {a : Nat → Nat} {a_fam : Nat → Nat → Nat} {h_tape : Nat} {h_reader : Nat} {h_friends : Nat} {h_dusk : Nat} {h_coming : Nat} {h_acts : Nat} {h_seen : Nat} {h_pairs : Nat} {h_trials : Nat} {h_imageNow : Nat} {h_imageActs : Nat} {h_imageSeen : Nat} {v : Ob} {v_fam : FS} {p0 : Int32} {p1 : Int32} {p2 : Int32} {k : Nat} (hl : l.stackTraces = false) (hf : t_X11_then v v_fam p0 p1 p2 = some k) : CX aK aV l yX11_then cX11_then 6 (some .int) ({ frames := 7, cells := 1, slots := 6, locals := 122 } : Room) D dT [.ref (a 0), .int p0, .int p1, .int p2] ([wH dT a h_tape h_reader h_friends h_dusk (a_fam 0 0) h_coming h_acts h_seen h_pairs h_trials h_imageNow h_imageActs h_imageSeen v, wRw dT v_fam.1 a_fam v_fam.2.2]) (nmE k) := by
  refine CX.of (by decide) (Nat.le_of_ble_eq_true rfl) rfl ?_
  intro p e s m args below meth c A C E ht
  unfold t_X11_then at hf
  refine wa_aload_n C 0 1 dX11_then_0 rfl rfl ?_
  refine wa_iload_n C 1 2 dX11_then_1 rfl rfl ?_
  cases hk1 : t_X11_needPerson v v_fam p0 with
  | some k1 =>
    rw [hk1] at hf
    cases hf
    exact wx_callV (b1 := 0) (q1 := 0) (ci := 11) (As := [.int p0]) C E ht dX11_then_2 kv_X11_193 (x_X11_needPerson hl hk1) ⟨rfl, rfl⟩ ⟨Nat.le_of_ble_eq_true rfl, Nat.le_of_ble_eq_true rfl⟩ rfl rfl rfl [0, 1] [] [0, 1] rfl rfl rfl rfl (by decide) rfl rfl rfl rfl ⟨Nat.le_of_ble_eq_true rfl, Nat.le_of_ble_eq_true rfl⟩ (Nat.le_of_ble_eq_true rfl) (Nat.le_of_ble_eq_true rfl) (Nat.le_of_ble_eq_true rfl)
  | none =>
    rw [hk1] at hf
    obtain ⟨q2, hq2, hf⟩ := bind_ex hf
    refine wa_callVAv (b1 := 0) (q1 := 0) (ci := 11) (As := [.int p0]) C 5 dX11_then_2 rfl kv_X11_193 (c_X11_needPerson hq2) ⟨rfl, rfl⟩ ⟨Nat.le_of_ble_eq_true rfl, Nat.le_of_ble_eq_true rfl⟩ rfl rfl rfl rfl rfl ⟨Nat.zero_le _, Nat.zero_le _⟩ (Nat.le_of_ble_eq_true rfl) ?_
    refine wa_iload_n C 3 6 dX11_then_5 rfl rfl ?_
    refine wa_iconst (v := 3) C 7 dX11_then_6 rfl rfl ?_
    cases hk3 : t_X11_needWhat p2 (3 : Int32) with
    | some k3 =>
      rw [hk3] at hf
      cases hf
      exact wx_callS (As := [.int p2, .int (3 : Int32)]) C E ht dX11_then_7 ks_X11_273 (x_X11_needWhat hl hk3) ⟨rfl, rfl⟩ ⟨Nat.le_of_ble_eq_true rfl, Nat.le_of_ble_eq_true rfl⟩ rfl rfl ⟨Nat.le_of_ble_eq_true rfl, Nat.le_of_ble_eq_true rfl⟩ (Nat.le_of_ble_eq_true rfl) (Nat.le_of_ble_eq_true rfl) (Nat.le_of_ble_eq_true rfl)
    | none =>
      rw [hk3] at hf
      obtain ⟨q4, hq4, hf⟩ := bind_ex hf
      refine wa_callS0v (As := [.int p2, .int (3 : Int32)]) C 10 dX11_then_7 rfl ks_X11_273 (c_X11_needWhat hq4) ⟨rfl, rfl⟩ ⟨Nat.le_of_ble_eq_true rfl, Nat.le_of_ble_eq_true rfl⟩ rfl rfl ⟨Nat.zero_le _, Nat.zero_le _⟩ (Nat.le_of_ble_eq_true rfl) ?_
      refine wa_iload_n C 2 11 dX11_then_10 rfl rfl ?_
      refine wa_iconst (v := 0) C 12 dX11_then_11 rfl rfl ?_
      refine wa_bipush (v := 100) C 14 dX11_then_12 rfl rfl ?_
      cases hk5 : t_X11_needWithin p1 (0 : Int32) (100 : Int32) with
      | some k5 =>
        rw [hk5] at hf
        cases hf
        exact wx_callS (As := [.int p1, .int (0 : Int32), .int (100 : Int32)]) C E ht dX11_then_14 ks_X11_276 (x_X11_needWithin hl hk5) ⟨rfl, rfl⟩ ⟨Nat.le_of_ble_eq_true rfl, Nat.le_of_ble_eq_true rfl⟩ rfl rfl ⟨Nat.le_of_ble_eq_true rfl, Nat.le_of_ble_eq_true rfl⟩ (Nat.le_of_ble_eq_true rfl) (Nat.le_of_ble_eq_true rfl) (Nat.le_of_ble_eq_true rfl)
      | none =>
        rw [hk5] at hf
        obtain ⟨q6, hq6, hf⟩ := bind_ex hf
        refine wa_callS0v (As := [.int p1, .int (0 : Int32), .int (100 : Int32)]) C 17 dX11_then_14 rfl ks_X11_276 (c_X11_needWithin hq6) ⟨rfl, rfl⟩ ⟨Nat.le_of_ble_eq_true rfl, Nat.le_of_ble_eq_true rfl⟩ rfl rfl ⟨Nat.zero_le _, Nat.zero_le _⟩ (Nat.le_of_ble_eq_true rfl) ?_
        refine wa_aload_n C 0 18 dX11_then_17 rfl rfl ?_
        cases hf
def t_X11_size (v : Ob) (v_fam : FS) (p0 : Int32) (p1 : Int32) : Option Nat := (match t_X11_needWithin p1 (0 : Int32) (100 : Int32) with | some k1 => some k1 | none => (f_X11_needWithin p1 (0 : Int32) (100 : Int32)).bind (fun q2 => (match t_X11_needWithin p0 (0 : Int32) (11 : Int32) with | some k3 => some k3 | none => (f_X11_needWithin p0 (0 : Int32) (11 : Int32)).bind (fun q4 => none))))
set_option maxRecDepth 20000 in
theorem x_X11_size {l : Launch} {D : va_G} {dT : Nat → ClassId} {aK aV : Nat → Nat} {a : Nat → Nat} {a_fam : Nat → Nat → Nat} {h_tape : Nat} {h_reader : Nat} {h_friends : Nat} {h_dusk : Nat} {h_coming : Nat} {h_acts : Nat} {h_seen : Nat} {h_pairs : Nat} {h_trials : Nat} {h_imageNow : Nat} {h_imageActs : Nat} {h_imageSeen : Nat} {v : Ob} {v_fam : FS} {p0 : Int32} {p1 : Int32} {k : Nat} (hl : l.stackTraces = false) (hf : t_X11_size v v_fam p0 p1 = some k) : CX aK aV l yX11_size cX11_size 3 (some .int) ({ frames := 7, cells := 1, slots := 6, locals := 122 } : Room) D dT [.ref (a 0), .int p0, .int p1] ([wH dT a h_tape h_reader h_friends h_dusk (a_fam 0 0) h_coming h_acts h_seen h_pairs h_trials h_imageNow h_imageActs h_imageSeen v, wRw dT v_fam.1 a_fam v_fam.2.2]) (nmE k) := by
  refine CX.of (by decide) (Nat.le_of_ble_eq_true rfl) rfl ?_
  intro p e s m args below meth c A C E ht
  unfold t_X11_size at hf
  refine wa_iload_n C 2 1 dX11_size_0 rfl rfl ?_
  refine wa_iconst (v := 0) C 2 dX11_size_1 rfl rfl ?_
  refine wa_bipush (v := 100) C 4 dX11_size_2 rfl rfl ?_
  cases hk1 : t_X11_needWithin p1 (0 : Int32) (100 : Int32) with
  | some k1 =>
    rw [hk1] at hf
    cases hf
    exact wx_callS (As := [.int p1, .int (0 : Int32), .int (100 : Int32)]) C E ht dX11_size_4 ks_X11_276 (x_X11_needWithin hl hk1) ⟨rfl, rfl⟩ ⟨Nat.le_of_ble_eq_true rfl, Nat.le_of_ble_eq_true rfl⟩ rfl rfl ⟨Nat.le_of_ble_eq_true rfl, Nat.le_of_ble_eq_true rfl⟩ (Nat.le_of_ble_eq_true rfl) (Nat.le_of_ble_eq_true rfl) (Nat.le_of_ble_eq_true rfl)
  | none =>
    rw [hk1] at hf
    obtain ⟨q2, hq2, hf⟩ := bind_ex hf
    refine wa_callS0v (As := [.int p1, .int (0 : Int32), .int (100 : Int32)]) C 7 dX11_size_4 rfl ks_X11_276 (c_X11_needWithin hq2) ⟨rfl, rfl⟩ ⟨Nat.le_of_ble_eq_true rfl, Nat.le_of_ble_eq_true rfl⟩ rfl rfl ⟨Nat.zero_le _, Nat.zero_le _⟩ (Nat.le_of_ble_eq_true rfl) ?_
    refine wa_iload_n C 1 8 dX11_size_7 rfl rfl ?_
    refine wa_iconst (v := 0) C 9 dX11_size_8 rfl rfl ?_
    refine wa_bipush (v := 11) C 11 dX11_size_9 rfl rfl ?_
    cases hk3 : t_X11_needWithin p0 (0 : Int32) (11 : Int32) with
    | some k3 =>
      rw [hk3] at hf
      cases hf
      exact wx_callS (As := [.int p0, .int (0 : Int32), .int (11 : Int32)]) C E ht dX11_size_11 ks_X11_276 (x_X11_needWithin hl hk3) ⟨rfl, rfl⟩ ⟨Nat.le_of_ble_eq_true rfl, Nat.le_of_ble_eq_true rfl⟩ rfl rfl ⟨Nat.le_of_ble_eq_true rfl, Nat.le_of_ble_eq_true rfl⟩ (Nat.le_of_ble_eq_true rfl) (Nat.le_of_ble_eq_true rfl) (Nat.le_of_ble_eq_true rfl)
    | none =>
      rw [hk3] at hf
      obtain ⟨q4, hq4, hf⟩ := bind_ex hf
      refine wa_callS0v (As := [.int p0, .int (0 : Int32), .int (11 : Int32)]) C 14 dX11_size_11 rfl ks_X11_276 (c_X11_needWithin hq4) ⟨rfl, rfl⟩ ⟨Nat.le_of_ble_eq_true rfl, Nat.le_of_ble_eq_true rfl⟩ rfl rfl ⟨Nat.zero_le _, Nat.zero_le _⟩ (Nat.le_of_ble_eq_true rfl) ?_
      refine wa_aload_n C 0 15 dX11_size_14 rfl rfl ?_
      cases hf
def t_X11_later (v : Ob) (v_fam : FS) (p0 : Int32) (p1 : Int32) : Option Nat := (match t_X11_needWhat p1 (4 : Int32) with | some k1 => some k1 | none => (f_X11_needWhat p1 (4 : Int32)).bind (fun q2 => (match t_X11_needWithin p0 (0 : Int32) (100 : Int32) with | some k3 => some k3 | none => (f_X11_needWithin p0 (0 : Int32) (100 : Int32)).bind (fun q4 => none))))
set_option maxRecDepth 20000 in
theorem x_X11_later {l : Launch} {D : va_G} {dT : Nat → ClassId} {aK aV : Nat → Nat} {a : Nat → Nat} {a_fam : Nat → Nat → Nat} {h_tape : Nat} {h_reader : Nat} {h_friends : Nat} {h_dusk : Nat} {h_coming : Nat} {h_acts : Nat} {h_seen : Nat} {h_pairs : Nat} {h_trials : Nat} {h_imageNow : Nat} {h_imageActs : Nat} {h_imageSeen : Nat} {v : Ob} {v_fam : FS} {p0 : Int32} {p1 : Int32} {k : Nat} (hl : l.stackTraces = false) (hf : t_X11_later v v_fam p0 p1 = some k) : CX aK aV l yX11_later cX11_later 4 (some .int) ({ frames := 7, cells := 1, slots := 6, locals := 122 } : Room) D dT [.ref (a 0), .int p0, .int p1] ([wH dT a h_tape h_reader h_friends h_dusk (a_fam 0 0) h_coming h_acts h_seen h_pairs h_trials h_imageNow h_imageActs h_imageSeen v, wRw dT v_fam.1 a_fam v_fam.2.2]) (nmE k) := by
  refine CX.of (by decide) (Nat.le_of_ble_eq_true rfl) rfl ?_
  intro p e s m args below meth c A C E ht
  unfold t_X11_later at hf
  refine wa_iload_n C 2 1 dX11_later_0 rfl rfl ?_
  refine wa_iconst (v := 4) C 2 dX11_later_1 rfl rfl ?_
  cases hk1 : t_X11_needWhat p1 (4 : Int32) with
  | some k1 =>
    rw [hk1] at hf
    cases hf
    exact wx_callS (As := [.int p1, .int (4 : Int32)]) C E ht dX11_later_2 ks_X11_273 (x_X11_needWhat hl hk1) ⟨rfl, rfl⟩ ⟨Nat.le_of_ble_eq_true rfl, Nat.le_of_ble_eq_true rfl⟩ rfl rfl ⟨Nat.le_of_ble_eq_true rfl, Nat.le_of_ble_eq_true rfl⟩ (Nat.le_of_ble_eq_true rfl) (Nat.le_of_ble_eq_true rfl) (Nat.le_of_ble_eq_true rfl)
  | none =>
    rw [hk1] at hf
    obtain ⟨q2, hq2, hf⟩ := bind_ex hf
    refine wa_callS0v (As := [.int p1, .int (4 : Int32)]) C 5 dX11_later_2 rfl ks_X11_273 (c_X11_needWhat hq2) ⟨rfl, rfl⟩ ⟨Nat.le_of_ble_eq_true rfl, Nat.le_of_ble_eq_true rfl⟩ rfl rfl ⟨Nat.zero_le _, Nat.zero_le _⟩ (Nat.le_of_ble_eq_true rfl) ?_
    refine wa_iload_n C 1 6 dX11_later_5 rfl rfl ?_
    refine wa_iconst (v := 0) C 7 dX11_later_6 rfl rfl ?_
    refine wa_bipush (v := 100) C 9 dX11_later_7 rfl rfl ?_
    cases hk3 : t_X11_needWithin p0 (0 : Int32) (100 : Int32) with
    | some k3 =>
      rw [hk3] at hf
      cases hf
      exact wx_callS (As := [.int p0, .int (0 : Int32), .int (100 : Int32)]) C E ht dX11_later_9 ks_X11_276 (x_X11_needWithin hl hk3) ⟨rfl, rfl⟩ ⟨Nat.le_of_ble_eq_true rfl, Nat.le_of_ble_eq_true rfl⟩ rfl rfl ⟨Nat.le_of_ble_eq_true rfl, Nat.le_of_ble_eq_true rfl⟩ (Nat.le_of_ble_eq_true rfl) (Nat.le_of_ble_eq_true rfl) (Nat.le_of_ble_eq_true rfl)
    | none =>
      rw [hk3] at hf
      obtain ⟨q4, hq4, hf⟩ := bind_ex hf
      refine wa_callS0v (As := [.int p0, .int (0 : Int32), .int (100 : Int32)]) C 12 dX11_later_9 rfl ks_X11_276 (c_X11_needWithin hq4) ⟨rfl, rfl⟩ ⟨Nat.le_of_ble_eq_true rfl, Nat.le_of_ble_eq_true rfl⟩ rfl rfl ⟨Nat.zero_le _, Nat.zero_le _⟩ (Nat.le_of_ble_eq_true rfl) ?_
      refine wa_aload_n C 0 13 dX11_later_12 rfl rfl ?_
      cases hf
def t_X11_meet (v : Ob) (v_fam : FS) (p0 : Int32) (p1 : Int32) (p2 : Int32) : Option Nat := (match t_X11_needPerson v v_fam p0 with | some k1 => some k1 | none => (f_X11_needPerson v v_fam p0).bind (fun q2 => (match t_X11_needPerson v v_fam p1 with | some k3 => some k3 | none => (f_X11_needPerson v v_fam p1).bind (fun q4 => (match t_X11_needWhat p2 (1 : Int32) with | some k5 => some k5 | none => (f_X11_needWhat p2 (1 : Int32)).bind (fun q6 => (if p0 = p1 then none else none)))))))
set_option maxRecDepth 20000 in
theorem x_X11_meet {l : Launch} {D : va_G} {dT : Nat → ClassId} {aK aV : Nat → Nat} {a : Nat → Nat} {a_fam : Nat → Nat → Nat} {h_tape : Nat} {h_reader : Nat} {h_friends : Nat} {h_dusk : Nat} {h_coming : Nat} {h_acts : Nat} {h_seen : Nat} {h_pairs : Nat} {h_trials : Nat} {h_imageNow : Nat} {h_imageActs : Nat} {h_imageSeen : Nat} {v : Ob} {v_fam : FS} {p0 : Int32} {p1 : Int32} {p2 : Int32} {k : Nat} (hl : l.stackTraces = false) (hf : t_X11_meet v v_fam p0 p1 p2 = some k) : CX aK aV l yX11_meet cX11_meet 4 (some .int) ({ frames := 7, cells := 1, slots := 6, locals := 121 } : Room) D dT [.ref (a 0), .int p0, .int p1, .int p2] ([wH dT a h_tape h_reader h_friends h_dusk (a_fam 0 0) h_coming h_acts h_seen h_pairs h_trials h_imageNow h_imageActs h_imageSeen v, wRw dT v_fam.1 a_fam v_fam.2.2]) (nmE k) := by
  refine CX.of (by decide) (Nat.le_of_ble_eq_true rfl) rfl ?_
  intro p e s m args below meth c A C E ht
  unfold t_X11_meet at hf
  refine wa_aload_n C 0 1 dX11_meet_0 rfl rfl ?_
  refine wa_iload_n C 1 2 dX11_meet_1 rfl rfl ?_
  cases hk1 : t_X11_needPerson v v_fam p0 with
  | some k1 =>
    rw [hk1] at hf
    cases hf
    exact wx_callV (b1 := 0) (q1 := 0) (ci := 11) (As := [.int p0]) C E ht dX11_meet_2 kv_X11_193 (x_X11_needPerson hl hk1) ⟨rfl, rfl⟩ ⟨Nat.le_of_ble_eq_true rfl, Nat.le_of_ble_eq_true rfl⟩ rfl rfl rfl [0, 1] [] [0, 1] rfl rfl rfl rfl (by decide) rfl rfl rfl rfl ⟨Nat.le_of_ble_eq_true rfl, Nat.le_of_ble_eq_true rfl⟩ (Nat.le_of_ble_eq_true rfl) (Nat.le_of_ble_eq_true rfl) (Nat.le_of_ble_eq_true rfl)
  | none =>
    rw [hk1] at hf
    obtain ⟨q2, hq2, hf⟩ := bind_ex hf
    refine wa_callVAv (b1 := 0) (q1 := 0) (ci := 11) (As := [.int p0]) C 5 dX11_meet_2 rfl kv_X11_193 (c_X11_needPerson hq2) ⟨rfl, rfl⟩ ⟨Nat.le_of_ble_eq_true rfl, Nat.le_of_ble_eq_true rfl⟩ rfl rfl rfl rfl rfl ⟨Nat.zero_le _, Nat.zero_le _⟩ (Nat.le_of_ble_eq_true rfl) ?_
    refine wa_aload_n C 0 6 dX11_meet_5 rfl rfl ?_
    refine wa_iload_n C 2 7 dX11_meet_6 rfl rfl ?_
    cases hk3 : t_X11_needPerson v v_fam p1 with
    | some k3 =>
      rw [hk3] at hf
      cases hf
      exact wx_callV (b1 := 0) (q1 := 0) (ci := 11) (As := [.int p1]) C E ht dX11_meet_7 kv_X11_193 (x_X11_needPerson hl hk3) ⟨rfl, rfl⟩ ⟨Nat.le_of_ble_eq_true rfl, Nat.le_of_ble_eq_true rfl⟩ rfl rfl rfl [0, 1] [] [0, 1] rfl rfl rfl rfl (by decide) rfl rfl rfl rfl ⟨Nat.le_of_ble_eq_true rfl, Nat.le_of_ble_eq_true rfl⟩ (Nat.le_of_ble_eq_true rfl) (Nat.le_of_ble_eq_true rfl) (Nat.le_of_ble_eq_true rfl)
    | none =>
      rw [hk3] at hf
      obtain ⟨q4, hq4, hf⟩ := bind_ex hf
      refine wa_callVAv (b1 := 0) (q1 := 0) (ci := 11) (As := [.int p1]) C 10 dX11_meet_7 rfl kv_X11_193 (c_X11_needPerson hq4) ⟨rfl, rfl⟩ ⟨Nat.le_of_ble_eq_true rfl, Nat.le_of_ble_eq_true rfl⟩ rfl rfl rfl rfl rfl ⟨Nat.zero_le _, Nat.zero_le _⟩ (Nat.le_of_ble_eq_true rfl) ?_
      refine wa_iload_n C 3 11 dX11_meet_10 rfl rfl ?_
      refine wa_iconst (v := 1) C 12 dX11_meet_11 rfl rfl ?_
      cases hk5 : t_X11_needWhat p2 (1 : Int32) with
      | some k5 =>
        rw [hk5] at hf
        cases hf
        exact wx_callS (As := [.int p2, .int (1 : Int32)]) C E ht dX11_meet_12 ks_X11_273 (x_X11_needWhat hl hk5) ⟨rfl, rfl⟩ ⟨Nat.le_of_ble_eq_true rfl, Nat.le_of_ble_eq_true rfl⟩ rfl rfl ⟨Nat.le_of_ble_eq_true rfl, Nat.le_of_ble_eq_true rfl⟩ (Nat.le_of_ble_eq_true rfl) (Nat.le_of_ble_eq_true rfl) (Nat.le_of_ble_eq_true rfl)
      | none =>
        rw [hk5] at hf
        obtain ⟨q6, hq6, hf⟩ := bind_ex hf
        refine wa_callS0v (As := [.int p2, .int (1 : Int32)]) C 15 dX11_meet_12 rfl ks_X11_273 (c_X11_needWhat hq6) ⟨rfl, rfl⟩ ⟨Nat.le_of_ble_eq_true rfl, Nat.le_of_ble_eq_true rfl⟩ rfl rfl ⟨Nat.zero_le _, Nat.zero_le _⟩ (Nat.le_of_ble_eq_true rfl) ?_
        refine wa_iload_n C 1 16 dX11_meet_15 rfl rfl ?_
        refine wa_iload_n C 2 17 dX11_meet_16 rfl rfl ?_
        refine wa_icmp_ne C 24 20 dX11_meet_17 rfl rfl (fun c7 => ?_) (fun c7 => ?_)
        · replace hf := ite_f hf c7
          refine wa_aload_n C 0 25 dX11_meet_24 rfl rfl ?_
          cases hf
        · replace hf := ite_t hf c7
          refine wa_iconst (v := (-1)) C 21 dX11_meet_20 rfl rfl ?_
          cases hf
def t_X11_together (v : Ob) (v_fam : FS) (p0 : Int32) (p1 : Int32) (p2 : Int32) : Option Nat := (match t_X11_needPerson v v_fam p0 with | some k1 => some k1 | none => (f_X11_needPerson v v_fam p0).bind (fun q2 => (match t_X11_needPerson v v_fam p1 with | some k3 => some k3 | none => (f_X11_needPerson v v_fam p1).bind (fun q4 => (match t_X11_needWithin p2 (1 : Int32) (100 : Int32) with | some k5 => some k5 | none => (f_X11_needWithin p2 (1 : Int32) (100 : Int32)).bind (fun q6 => none))))))
set_option maxRecDepth 20000 in
theorem x_X11_together {l : Launch} {D : va_G} {dT : Nat → ClassId} {aK aV : Nat → Nat} {a : Nat → Nat} {a_fam : Nat → Nat → Nat} {h_tape : Nat} {h_reader : Nat} {h_friends : Nat} {h_dusk : Nat} {h_coming : Nat} {h_acts : Nat} {h_seen : Nat} {h_pairs : Nat} {h_trials : Nat} {h_imageNow : Nat} {h_imageActs : Nat} {h_imageSeen : Nat} {v : Ob} {v_fam : FS} {p0 : Int32} {p1 : Int32} {p2 : Int32} {k : Nat} (hl : l.stackTraces = false) (hf : t_X11_together v v_fam p0 p1 p2 = some k) : CX aK aV l yX11_together cX11_together 6 (some .int) ({ frames := 7, cells := 1, slots := 6, locals := 122 } : Room) D dT [.ref (a 0), .int p0, .int p1, .int p2] ([wH dT a h_tape h_reader h_friends h_dusk (a_fam 0 0) h_coming h_acts h_seen h_pairs h_trials h_imageNow h_imageActs h_imageSeen v, wRw dT v_fam.1 a_fam v_fam.2.2]) (nmE k) := by
  refine CX.of (by decide) (Nat.le_of_ble_eq_true rfl) rfl ?_
  intro p e s m args below meth c A C E ht
  unfold t_X11_together at hf
  refine wa_aload_n C 0 1 dX11_together_0 rfl rfl ?_
  refine wa_iload_n C 1 2 dX11_together_1 rfl rfl ?_
  cases hk1 : t_X11_needPerson v v_fam p0 with
  | some k1 =>
    rw [hk1] at hf
    cases hf
    exact wx_callV (b1 := 0) (q1 := 0) (ci := 11) (As := [.int p0]) C E ht dX11_together_2 kv_X11_193 (x_X11_needPerson hl hk1) ⟨rfl, rfl⟩ ⟨Nat.le_of_ble_eq_true rfl, Nat.le_of_ble_eq_true rfl⟩ rfl rfl rfl [0, 1] [] [0, 1] rfl rfl rfl rfl (by decide) rfl rfl rfl rfl ⟨Nat.le_of_ble_eq_true rfl, Nat.le_of_ble_eq_true rfl⟩ (Nat.le_of_ble_eq_true rfl) (Nat.le_of_ble_eq_true rfl) (Nat.le_of_ble_eq_true rfl)
  | none =>
    rw [hk1] at hf
    obtain ⟨q2, hq2, hf⟩ := bind_ex hf
    refine wa_callVAv (b1 := 0) (q1 := 0) (ci := 11) (As := [.int p0]) C 5 dX11_together_2 rfl kv_X11_193 (c_X11_needPerson hq2) ⟨rfl, rfl⟩ ⟨Nat.le_of_ble_eq_true rfl, Nat.le_of_ble_eq_true rfl⟩ rfl rfl rfl rfl rfl ⟨Nat.zero_le _, Nat.zero_le _⟩ (Nat.le_of_ble_eq_true rfl) ?_
    refine wa_aload_n C 0 6 dX11_together_5 rfl rfl ?_
    refine wa_iload_n C 2 7 dX11_together_6 rfl rfl ?_
    cases hk3 : t_X11_needPerson v v_fam p1 with
    | some k3 =>
      rw [hk3] at hf
      cases hf
      exact wx_callV (b1 := 0) (q1 := 0) (ci := 11) (As := [.int p1]) C E ht dX11_together_7 kv_X11_193 (x_X11_needPerson hl hk3) ⟨rfl, rfl⟩ ⟨Nat.le_of_ble_eq_true rfl, Nat.le_of_ble_eq_true rfl⟩ rfl rfl rfl [0, 1] [] [0, 1] rfl rfl rfl rfl (by decide) rfl rfl rfl rfl ⟨Nat.le_of_ble_eq_true rfl, Nat.le_of_ble_eq_true rfl⟩ (Nat.le_of_ble_eq_true rfl) (Nat.le_of_ble_eq_true rfl) (Nat.le_of_ble_eq_true rfl)
    | none =>
      rw [hk3] at hf
      obtain ⟨q4, hq4, hf⟩ := bind_ex hf
      refine wa_callVAv (b1 := 0) (q1 := 0) (ci := 11) (As := [.int p1]) C 10 dX11_together_7 rfl kv_X11_193 (c_X11_needPerson hq4) ⟨rfl, rfl⟩ ⟨Nat.le_of_ble_eq_true rfl, Nat.le_of_ble_eq_true rfl⟩ rfl rfl rfl rfl rfl ⟨Nat.zero_le _, Nat.zero_le _⟩ (Nat.le_of_ble_eq_true rfl) ?_
      refine wa_iload_n C 3 11 dX11_together_10 rfl rfl ?_
      refine wa_iconst (v := 1) C 12 dX11_together_11 rfl rfl ?_
      refine wa_bipush (v := 100) C 14 dX11_together_12 rfl rfl ?_
      cases hk5 : t_X11_needWithin p2 (1 : Int32) (100 : Int32) with
      | some k5 =>
        rw [hk5] at hf
        cases hf
        exact wx_callS (As := [.int p2, .int (1 : Int32), .int (100 : Int32)]) C E ht dX11_together_14 ks_X11_276 (x_X11_needWithin hl hk5) ⟨rfl, rfl⟩ ⟨Nat.le_of_ble_eq_true rfl, Nat.le_of_ble_eq_true rfl⟩ rfl rfl ⟨Nat.le_of_ble_eq_true rfl, Nat.le_of_ble_eq_true rfl⟩ (Nat.le_of_ble_eq_true rfl) (Nat.le_of_ble_eq_true rfl) (Nat.le_of_ble_eq_true rfl)
      | none =>
        rw [hk5] at hf
        obtain ⟨q6, hq6, hf⟩ := bind_ex hf
        refine wa_callS0v (As := [.int p2, .int (1 : Int32), .int (100 : Int32)]) C 17 dX11_together_14 rfl ks_X11_276 (c_X11_needWithin hq6) ⟨rfl, rfl⟩ ⟨Nat.le_of_ble_eq_true rfl, Nat.le_of_ble_eq_true rfl⟩ rfl rfl ⟨Nat.zero_le _, Nat.zero_le _⟩ (Nat.le_of_ble_eq_true rfl) ?_
        refine wa_iconst (v := 0) C 18 dX11_together_17 rfl rfl ?_
        cases hf
def t_X11_goes (v : Ob) (v_fam : FS) (p0 : Int32) (p1 : Int32) : Option Nat := (match t_X11_needPerson v v_fam p0 with | some k1 => some k1 | none => (f_X11_needPerson v v_fam p0).bind (fun q2 => (match t_X11_needWhat p1 (1 : Int32) with | some k3 => some k3 | none => (f_X11_needWhat p1 (1 : Int32)).bind (fun q4 => (if p1 = 0 then none else none)))))
set_option maxRecDepth 20000 in
theorem x_X11_goes {l : Launch} {D : va_G} {dT : Nat → ClassId} {aK aV : Nat → Nat} {a : Nat → Nat} {a_fam : Nat → Nat → Nat} {h_tape : Nat} {h_reader : Nat} {h_friends : Nat} {h_dusk : Nat} {h_coming : Nat} {h_acts : Nat} {h_seen : Nat} {h_pairs : Nat} {h_trials : Nat} {h_imageNow : Nat} {h_imageActs : Nat} {h_imageSeen : Nat} {v : Ob} {v_fam : FS} {p0 : Int32} {p1 : Int32} {k : Nat} (hl : l.stackTraces = false) (hf : t_X11_goes v v_fam p0 p1 = some k) : CX aK aV l yX11_goes cX11_goes 3 (some .int) ({ frames := 7, cells := 1, slots := 6, locals := 121 } : Room) D dT [.ref (a 0), .int p0, .int p1] ([wH dT a h_tape h_reader h_friends h_dusk (a_fam 0 0) h_coming h_acts h_seen h_pairs h_trials h_imageNow h_imageActs h_imageSeen v, wRw dT v_fam.1 a_fam v_fam.2.2]) (nmE k) := by
  refine CX.of (by decide) (Nat.le_of_ble_eq_true rfl) rfl ?_
  intro p e s m args below meth c A C E ht
  unfold t_X11_goes at hf
  refine wa_aload_n C 0 1 dX11_goes_0 rfl rfl ?_
  refine wa_iload_n C 1 2 dX11_goes_1 rfl rfl ?_
  cases hk1 : t_X11_needPerson v v_fam p0 with
  | some k1 =>
    rw [hk1] at hf
    cases hf
    exact wx_callV (b1 := 0) (q1 := 0) (ci := 11) (As := [.int p0]) C E ht dX11_goes_2 kv_X11_193 (x_X11_needPerson hl hk1) ⟨rfl, rfl⟩ ⟨Nat.le_of_ble_eq_true rfl, Nat.le_of_ble_eq_true rfl⟩ rfl rfl rfl [0, 1] [] [0, 1] rfl rfl rfl rfl (by decide) rfl rfl rfl rfl ⟨Nat.le_of_ble_eq_true rfl, Nat.le_of_ble_eq_true rfl⟩ (Nat.le_of_ble_eq_true rfl) (Nat.le_of_ble_eq_true rfl) (Nat.le_of_ble_eq_true rfl)
  | none =>
    rw [hk1] at hf
    obtain ⟨q2, hq2, hf⟩ := bind_ex hf
    refine wa_callVAv (b1 := 0) (q1 := 0) (ci := 11) (As := [.int p0]) C 5 dX11_goes_2 rfl kv_X11_193 (c_X11_needPerson hq2) ⟨rfl, rfl⟩ ⟨Nat.le_of_ble_eq_true rfl, Nat.le_of_ble_eq_true rfl⟩ rfl rfl rfl rfl rfl ⟨Nat.zero_le _, Nat.zero_le _⟩ (Nat.le_of_ble_eq_true rfl) ?_
    refine wa_iload_n C 2 6 dX11_goes_5 rfl rfl ?_
    refine wa_iconst (v := 1) C 7 dX11_goes_6 rfl rfl ?_
    cases hk3 : t_X11_needWhat p1 (1 : Int32) with
    | some k3 =>
      rw [hk3] at hf
      cases hf
      exact wx_callS (As := [.int p1, .int (1 : Int32)]) C E ht dX11_goes_7 ks_X11_273 (x_X11_needWhat hl hk3) ⟨rfl, rfl⟩ ⟨Nat.le_of_ble_eq_true rfl, Nat.le_of_ble_eq_true rfl⟩ rfl rfl ⟨Nat.le_of_ble_eq_true rfl, Nat.le_of_ble_eq_true rfl⟩ (Nat.le_of_ble_eq_true rfl) (Nat.le_of_ble_eq_true rfl) (Nat.le_of_ble_eq_true rfl)
    | none =>
      rw [hk3] at hf
      obtain ⟨q4, hq4, hf⟩ := bind_ex hf
      refine wa_callS0v (As := [.int p1, .int (1 : Int32)]) C 10 dX11_goes_7 rfl ks_X11_273 (c_X11_needWhat hq4) ⟨rfl, rfl⟩ ⟨Nat.le_of_ble_eq_true rfl, Nat.le_of_ble_eq_true rfl⟩ rfl rfl ⟨Nat.zero_le _, Nat.zero_le _⟩ (Nat.le_of_ble_eq_true rfl) ?_
      refine wa_iload_n C 2 11 dX11_goes_10 rfl rfl ?_
      refine wa_if_ne C 25 14 dX11_goes_11 rfl rfl (fun c5 => ?_) (fun c5 => ?_)
      · replace hf := ite_f hf c5
        refine wa_aload_n C 0 26 dX11_goes_25 rfl rfl ?_
        cases hf
      · replace hf := ite_t hf c5
        refine wa_aload_n C 0 15 dX11_goes_14 rfl rfl ?_
        cases hf
def t_X11_falls (v : Ob) (v_fam : FS) (p0 : Int32) : Option Nat := (match t_X11_needHouse v v_fam p0 with | some k1 => some k1 | none => (f_X11_needHouse v v_fam p0).bind (fun q2 => none))
set_option maxRecDepth 20000 in
theorem x_X11_falls {l : Launch} {D : va_G} {dT : Nat → ClassId} {aK aV : Nat → Nat} {a : Nat → Nat} {a_fam : Nat → Nat → Nat} {h_tape : Nat} {h_reader : Nat} {h_friends : Nat} {h_dusk : Nat} {h_coming : Nat} {h_acts : Nat} {h_seen : Nat} {h_pairs : Nat} {h_trials : Nat} {h_imageNow : Nat} {h_imageActs : Nat} {h_imageSeen : Nat} {v : Ob} {v_fam : FS} {p0 : Int32} {k : Nat} (hl : l.stackTraces = false) (hf : t_X11_falls v v_fam p0 = some k) : CX aK aV l yX11_falls cX11_falls 2 (some .int) ({ frames := 7, cells := 1, slots := 6, locals := 121 } : Room) D dT [.ref (a 0), .int p0] ([wH dT a h_tape h_reader h_friends h_dusk (a_fam 0 0) h_coming h_acts h_seen h_pairs h_trials h_imageNow h_imageActs h_imageSeen v, wRw dT v_fam.1 a_fam v_fam.2.2]) (nmE k) := by
  refine CX.of (by decide) (Nat.le_of_ble_eq_true rfl) rfl ?_
  intro p e s m args below meth c A C E ht
  unfold t_X11_falls at hf
  refine wa_aload_n C 0 1 dX11_falls_0 rfl rfl ?_
  refine wa_iload_n C 1 2 dX11_falls_1 rfl rfl ?_
  cases hk1 : t_X11_needHouse v v_fam p0 with
  | some k1 =>
    rw [hk1] at hf
    cases hf
    exact wx_callV (b1 := 0) (q1 := 0) (ci := 11) (As := [.int p0]) C E ht dX11_falls_2 kv_X11_225 (x_X11_needHouse hl hk1) ⟨rfl, rfl⟩ ⟨Nat.le_of_ble_eq_true rfl, Nat.le_of_ble_eq_true rfl⟩ rfl rfl rfl [0, 1] [] [0, 1] rfl rfl rfl rfl (by decide) rfl rfl rfl rfl ⟨Nat.le_of_ble_eq_true rfl, Nat.le_of_ble_eq_true rfl⟩ (Nat.le_of_ble_eq_true rfl) (Nat.le_of_ble_eq_true rfl) (Nat.le_of_ble_eq_true rfl)
  | none =>
    rw [hk1] at hf
    obtain ⟨q2, hq2, hf⟩ := bind_ex hf
    refine wa_callVAv (b1 := 0) (q1 := 0) (ci := 11) (As := [.int p0]) C 5 dX11_falls_2 rfl kv_X11_225 (c_X11_needHouse hq2) ⟨rfl, rfl⟩ ⟨Nat.le_of_ble_eq_true rfl, Nat.le_of_ble_eq_true rfl⟩ rfl rfl rfl rfl rfl ⟨Nat.zero_le _, Nat.zero_le _⟩ (Nat.le_of_ble_eq_true rfl) ?_
    refine wa_aload_n C 0 6 dX11_falls_5 rfl rfl ?_
    cases hf
def t_X11_who (v : Ob) (v_fam : FS) (p0 : Int32) (p1 : Int32) (p2 : Int32) : Option Nat := (match t_X11_needWithin p0 (0 : Int32) (11 : Int32) with | some k1 => some k1 | none => (f_X11_needWithin p0 (0 : Int32) (11 : Int32)).bind (fun q2 => (match t_X11_needWithin p1 (0 : Int32) (11 : Int32) with | some k3 => some k3 | none => (f_X11_needWithin p1 (0 : Int32) (11 : Int32)).bind (fun q4 => (match t_X11_needWithin p2 (0 : Int32) (100 : Int32) with | some k5 => some k5 | none => (f_X11_needWithin p2 (0 : Int32) (100 : Int32)).bind (fun q6 => none))))))
set_option maxRecDepth 20000 in
theorem x_X11_who {l : Launch} {D : va_G} {dT : Nat → ClassId} {aK aV : Nat → Nat} {a : Nat → Nat} {a_fam : Nat → Nat → Nat} {h_tape : Nat} {h_reader : Nat} {h_friends : Nat} {h_dusk : Nat} {h_coming : Nat} {h_acts : Nat} {h_seen : Nat} {h_pairs : Nat} {h_trials : Nat} {h_imageNow : Nat} {h_imageActs : Nat} {h_imageSeen : Nat} {v : Ob} {v_fam : FS} {p0 : Int32} {p1 : Int32} {p2 : Int32} {k : Nat} (hl : l.stackTraces = false) (hf : t_X11_who v v_fam p0 p1 p2 = some k) : CX aK aV l yX11_who cX11_who 4 (some .int) ({ frames := 7, cells := 1, slots := 6, locals := 122 } : Room) D dT [.ref (a 0), .int p0, .int p1, .int p2] ([wH dT a h_tape h_reader h_friends h_dusk (a_fam 0 0) h_coming h_acts h_seen h_pairs h_trials h_imageNow h_imageActs h_imageSeen v, wRw dT v_fam.1 a_fam v_fam.2.2]) (nmE k) := by
  refine CX.of (by decide) (Nat.le_of_ble_eq_true rfl) rfl ?_
  intro p e s m args below meth c A C E ht
  unfold t_X11_who at hf
  refine wa_iload_n C 1 1 dX11_who_0 rfl rfl ?_
  refine wa_iconst (v := 0) C 2 dX11_who_1 rfl rfl ?_
  refine wa_bipush (v := 11) C 4 dX11_who_2 rfl rfl ?_
  cases hk1 : t_X11_needWithin p0 (0 : Int32) (11 : Int32) with
  | some k1 =>
    rw [hk1] at hf
    cases hf
    exact wx_callS (As := [.int p0, .int (0 : Int32), .int (11 : Int32)]) C E ht dX11_who_4 ks_X11_276 (x_X11_needWithin hl hk1) ⟨rfl, rfl⟩ ⟨Nat.le_of_ble_eq_true rfl, Nat.le_of_ble_eq_true rfl⟩ rfl rfl ⟨Nat.le_of_ble_eq_true rfl, Nat.le_of_ble_eq_true rfl⟩ (Nat.le_of_ble_eq_true rfl) (Nat.le_of_ble_eq_true rfl) (Nat.le_of_ble_eq_true rfl)
  | none =>
    rw [hk1] at hf
    obtain ⟨q2, hq2, hf⟩ := bind_ex hf
    refine wa_callS0v (As := [.int p0, .int (0 : Int32), .int (11 : Int32)]) C 7 dX11_who_4 rfl ks_X11_276 (c_X11_needWithin hq2) ⟨rfl, rfl⟩ ⟨Nat.le_of_ble_eq_true rfl, Nat.le_of_ble_eq_true rfl⟩ rfl rfl ⟨Nat.zero_le _, Nat.zero_le _⟩ (Nat.le_of_ble_eq_true rfl) ?_
    refine wa_iload_n C 2 8 dX11_who_7 rfl rfl ?_
    refine wa_iconst (v := 0) C 9 dX11_who_8 rfl rfl ?_
    refine wa_bipush (v := 11) C 11 dX11_who_9 rfl rfl ?_
    cases hk3 : t_X11_needWithin p1 (0 : Int32) (11 : Int32) with
    | some k3 =>
      rw [hk3] at hf
      cases hf
      exact wx_callS (As := [.int p1, .int (0 : Int32), .int (11 : Int32)]) C E ht dX11_who_11 ks_X11_276 (x_X11_needWithin hl hk3) ⟨rfl, rfl⟩ ⟨Nat.le_of_ble_eq_true rfl, Nat.le_of_ble_eq_true rfl⟩ rfl rfl ⟨Nat.le_of_ble_eq_true rfl, Nat.le_of_ble_eq_true rfl⟩ (Nat.le_of_ble_eq_true rfl) (Nat.le_of_ble_eq_true rfl) (Nat.le_of_ble_eq_true rfl)
    | none =>
      rw [hk3] at hf
      obtain ⟨q4, hq4, hf⟩ := bind_ex hf
      refine wa_callS0v (As := [.int p1, .int (0 : Int32), .int (11 : Int32)]) C 14 dX11_who_11 rfl ks_X11_276 (c_X11_needWithin hq4) ⟨rfl, rfl⟩ ⟨Nat.le_of_ble_eq_true rfl, Nat.le_of_ble_eq_true rfl⟩ rfl rfl ⟨Nat.zero_le _, Nat.zero_le _⟩ (Nat.le_of_ble_eq_true rfl) ?_
      refine wa_iload_n C 3 15 dX11_who_14 rfl rfl ?_
      refine wa_iconst (v := 0) C 16 dX11_who_15 rfl rfl ?_
      refine wa_bipush (v := 100) C 18 dX11_who_16 rfl rfl ?_
      cases hk5 : t_X11_needWithin p2 (0 : Int32) (100 : Int32) with
      | some k5 =>
        rw [hk5] at hf
        cases hf
        exact wx_callS (As := [.int p2, .int (0 : Int32), .int (100 : Int32)]) C E ht dX11_who_18 ks_X11_276 (x_X11_needWithin hl hk5) ⟨rfl, rfl⟩ ⟨Nat.le_of_ble_eq_true rfl, Nat.le_of_ble_eq_true rfl⟩ rfl rfl ⟨Nat.le_of_ble_eq_true rfl, Nat.le_of_ble_eq_true rfl⟩ (Nat.le_of_ble_eq_true rfl) (Nat.le_of_ble_eq_true rfl) (Nat.le_of_ble_eq_true rfl)
      | none =>
        rw [hk5] at hf
        obtain ⟨q6, hq6, hf⟩ := bind_ex hf
        refine wa_callS0v (As := [.int p2, .int (0 : Int32), .int (100 : Int32)]) C 21 dX11_who_18 rfl ks_X11_276 (c_X11_needWithin hq6) ⟨rfl, rfl⟩ ⟨Nat.le_of_ble_eq_true rfl, Nat.le_of_ble_eq_true rfl⟩ rfl rfl ⟨Nat.zero_le _, Nat.zero_le _⟩ (Nat.le_of_ble_eq_true rfl) ?_
        refine wa_aload_n C 0 22 dX11_who_21 rfl rfl ?_
        cases hf
def t_X11_round (v : Ob) (v_fam : FS) (p0 : Int32) : Option Nat := (match t_X11_needWhat p0 (1 : Int32) with | some k1 => some k1 | none => (f_X11_needWhat p0 (1 : Int32)).bind (fun q2 => none))
set_option maxRecDepth 20000 in
theorem x_X11_round {l : Launch} {D : va_G} {dT : Nat → ClassId} {aK aV : Nat → Nat} {a : Nat → Nat} {a_fam : Nat → Nat → Nat} {h_tape : Nat} {h_reader : Nat} {h_friends : Nat} {h_dusk : Nat} {h_coming : Nat} {h_acts : Nat} {h_seen : Nat} {h_pairs : Nat} {h_trials : Nat} {h_imageNow : Nat} {h_imageActs : Nat} {h_imageSeen : Nat} {v : Ob} {v_fam : FS} {p0 : Int32} {k : Nat} (hl : l.stackTraces = false) (hf : t_X11_round v v_fam p0 = some k) : CX aK aV l yX11_round cX11_round 2 (some .int) ({ frames := 7, cells := 1, slots := 6, locals := 121 } : Room) D dT [.ref (a 0), .int p0] ([wH dT a h_tape h_reader h_friends h_dusk (a_fam 0 0) h_coming h_acts h_seen h_pairs h_trials h_imageNow h_imageActs h_imageSeen v, wRw dT v_fam.1 a_fam v_fam.2.2]) (nmE k) := by
  refine CX.of (by decide) (Nat.le_of_ble_eq_true rfl) rfl ?_
  intro p e s m args below meth c A C E ht
  unfold t_X11_round at hf
  refine wa_iload_n C 1 1 dX11_round_0 rfl rfl ?_
  refine wa_iconst (v := 1) C 2 dX11_round_1 rfl rfl ?_
  cases hk1 : t_X11_needWhat p0 (1 : Int32) with
  | some k1 =>
    rw [hk1] at hf
    cases hf
    exact wx_callS (As := [.int p0, .int (1 : Int32)]) C E ht dX11_round_2 ks_X11_273 (x_X11_needWhat hl hk1) ⟨rfl, rfl⟩ ⟨Nat.le_of_ble_eq_true rfl, Nat.le_of_ble_eq_true rfl⟩ rfl rfl ⟨Nat.le_of_ble_eq_true rfl, Nat.le_of_ble_eq_true rfl⟩ (Nat.le_of_ble_eq_true rfl) (Nat.le_of_ble_eq_true rfl) (Nat.le_of_ble_eq_true rfl)
  | none =>
    rw [hk1] at hf
    obtain ⟨q2, hq2, hf⟩ := bind_ex hf
    refine wa_callS0v (As := [.int p0, .int (1 : Int32)]) C 5 dX11_round_2 rfl ks_X11_273 (c_X11_needWhat hq2) ⟨rfl, rfl⟩ ⟨Nat.le_of_ble_eq_true rfl, Nat.le_of_ble_eq_true rfl⟩ rfl rfl ⟨Nat.zero_le _, Nat.zero_le _⟩ (Nat.le_of_ble_eq_true rfl) ?_
    refine wa_aload_n C 0 6 dX11_round_5 rfl rfl ?_
    cases hf
def t_X11_known (v : Ob) (v_fam : FS) (p0 : Int32) (p1 : Int32) : Option Nat := (match t_X11_needPerson v v_fam p0 with | some k1 => some k1 | none => (f_X11_needPerson v v_fam p0).bind (fun q2 => (match t_X11_needWithin p1 (0 : Int32) (100 : Int32) with | some k3 => some k3 | none => (f_X11_needWithin p1 (0 : Int32) (100 : Int32)).bind (fun q4 => none))))
set_option maxRecDepth 20000 in
theorem x_X11_known {l : Launch} {D : va_G} {dT : Nat → ClassId} {aK aV : Nat → Nat} {a : Nat → Nat} {a_fam : Nat → Nat → Nat} {h_tape : Nat} {h_reader : Nat} {h_friends : Nat} {h_dusk : Nat} {h_coming : Nat} {h_acts : Nat} {h_seen : Nat} {h_pairs : Nat} {h_trials : Nat} {h_imageNow : Nat} {h_imageActs : Nat} {h_imageSeen : Nat} {v : Ob} {v_fam : FS} {p0 : Int32} {p1 : Int32} {k : Nat} (hl : l.stackTraces = false) (hf : t_X11_known v v_fam p0 p1 = some k) : CX aK aV l yX11_known cX11_known 3 (some .int) ({ frames := 7, cells := 1, slots := 6, locals := 122 } : Room) D dT [.ref (a 0), .int p0, .int p1] ([wH dT a h_tape h_reader h_friends h_dusk (a_fam 0 0) h_coming h_acts h_seen h_pairs h_trials h_imageNow h_imageActs h_imageSeen v, wRw dT v_fam.1 a_fam v_fam.2.2]) (nmE k) := by
  refine CX.of (by decide) (Nat.le_of_ble_eq_true rfl) rfl ?_
  intro p e s m args below meth c A C E ht
  unfold t_X11_known at hf
  refine wa_aload_n C 0 1 dX11_known_0 rfl rfl ?_
  refine wa_iload_n C 1 2 dX11_known_1 rfl rfl ?_
  cases hk1 : t_X11_needPerson v v_fam p0 with
  | some k1 =>
    rw [hk1] at hf
    cases hf
    exact wx_callV (b1 := 0) (q1 := 0) (ci := 11) (As := [.int p0]) C E ht dX11_known_2 kv_X11_193 (x_X11_needPerson hl hk1) ⟨rfl, rfl⟩ ⟨Nat.le_of_ble_eq_true rfl, Nat.le_of_ble_eq_true rfl⟩ rfl rfl rfl [0, 1] [] [0, 1] rfl rfl rfl rfl (by decide) rfl rfl rfl rfl ⟨Nat.le_of_ble_eq_true rfl, Nat.le_of_ble_eq_true rfl⟩ (Nat.le_of_ble_eq_true rfl) (Nat.le_of_ble_eq_true rfl) (Nat.le_of_ble_eq_true rfl)
  | none =>
    rw [hk1] at hf
    obtain ⟨q2, hq2, hf⟩ := bind_ex hf
    refine wa_callVAv (b1 := 0) (q1 := 0) (ci := 11) (As := [.int p0]) C 5 dX11_known_2 rfl kv_X11_193 (c_X11_needPerson hq2) ⟨rfl, rfl⟩ ⟨Nat.le_of_ble_eq_true rfl, Nat.le_of_ble_eq_true rfl⟩ rfl rfl rfl rfl rfl ⟨Nat.zero_le _, Nat.zero_le _⟩ (Nat.le_of_ble_eq_true rfl) ?_
    refine wa_iload_n C 2 6 dX11_known_5 rfl rfl ?_
    refine wa_iconst (v := 0) C 7 dX11_known_6 rfl rfl ?_
    refine wa_bipush (v := 100) C 9 dX11_known_7 rfl rfl ?_
    cases hk3 : t_X11_needWithin p1 (0 : Int32) (100 : Int32) with
    | some k3 =>
      rw [hk3] at hf
      cases hf
      exact wx_callS (As := [.int p1, .int (0 : Int32), .int (100 : Int32)]) C E ht dX11_known_9 ks_X11_276 (x_X11_needWithin hl hk3) ⟨rfl, rfl⟩ ⟨Nat.le_of_ble_eq_true rfl, Nat.le_of_ble_eq_true rfl⟩ rfl rfl ⟨Nat.le_of_ble_eq_true rfl, Nat.le_of_ble_eq_true rfl⟩ (Nat.le_of_ble_eq_true rfl) (Nat.le_of_ble_eq_true rfl) (Nat.le_of_ble_eq_true rfl)
    | none =>
      rw [hk3] at hf
      obtain ⟨q4, hq4, hf⟩ := bind_ex hf
      refine wa_callS0v (As := [.int p1, .int (0 : Int32), .int (100 : Int32)]) C 12 dX11_known_9 rfl ks_X11_276 (c_X11_needWithin hq4) ⟨rfl, rfl⟩ ⟨Nat.le_of_ble_eq_true rfl, Nat.le_of_ble_eq_true rfl⟩ rfl rfl ⟨Nat.zero_le _, Nat.zero_le _⟩ (Nat.le_of_ble_eq_true rfl) ?_
      refine wa_aload_n C 0 13 dX11_known_12 rfl rfl ?_
      cases hf
def t_X11_toMeet (v : Ob) (v_fam : FS) (p0 : Int32) (p1 : Int32) : Option Nat := (match t_X11_needPerson v v_fam p0 with | some k1 => some k1 | none => (f_X11_needPerson v v_fam p0).bind (fun q2 => (match t_X11_needPerson v v_fam p1 with | some k3 => some k3 | none => (f_X11_needPerson v v_fam p1).bind (fun q4 => none))))
set_option maxRecDepth 20000 in
theorem x_X11_toMeet {l : Launch} {D : va_G} {dT : Nat → ClassId} {aK aV : Nat → Nat} {a : Nat → Nat} {a_fam : Nat → Nat → Nat} {h_tape : Nat} {h_reader : Nat} {h_friends : Nat} {h_dusk : Nat} {h_coming : Nat} {h_acts : Nat} {h_seen : Nat} {h_pairs : Nat} {h_trials : Nat} {h_imageNow : Nat} {h_imageActs : Nat} {h_imageSeen : Nat} {v : Ob} {v_fam : FS} {p0 : Int32} {p1 : Int32} {k : Nat} (hl : l.stackTraces = false) (hf : t_X11_toMeet v v_fam p0 p1 = some k) : CX aK aV l yX11_toMeet cX11_toMeet 3 (some .int) ({ frames := 7, cells := 1, slots := 6, locals := 121 } : Room) D dT [.ref (a 0), .int p0, .int p1] ([wH dT a h_tape h_reader h_friends h_dusk (a_fam 0 0) h_coming h_acts h_seen h_pairs h_trials h_imageNow h_imageActs h_imageSeen v, wRw dT v_fam.1 a_fam v_fam.2.2]) (nmE k) := by
  refine CX.of (by decide) (Nat.le_of_ble_eq_true rfl) rfl ?_
  intro p e s m args below meth c A C E ht
  unfold t_X11_toMeet at hf
  refine wa_aload_n C 0 1 dX11_toMeet_0 rfl rfl ?_
  refine wa_iload_n C 1 2 dX11_toMeet_1 rfl rfl ?_
  cases hk1 : t_X11_needPerson v v_fam p0 with
  | some k1 =>
    rw [hk1] at hf
    cases hf
    exact wx_callV (b1 := 0) (q1 := 0) (ci := 11) (As := [.int p0]) C E ht dX11_toMeet_2 kv_X11_193 (x_X11_needPerson hl hk1) ⟨rfl, rfl⟩ ⟨Nat.le_of_ble_eq_true rfl, Nat.le_of_ble_eq_true rfl⟩ rfl rfl rfl [0, 1] [] [0, 1] rfl rfl rfl rfl (by decide) rfl rfl rfl rfl ⟨Nat.le_of_ble_eq_true rfl, Nat.le_of_ble_eq_true rfl⟩ (Nat.le_of_ble_eq_true rfl) (Nat.le_of_ble_eq_true rfl) (Nat.le_of_ble_eq_true rfl)
  | none =>
    rw [hk1] at hf
    obtain ⟨q2, hq2, hf⟩ := bind_ex hf
    refine wa_callVAv (b1 := 0) (q1 := 0) (ci := 11) (As := [.int p0]) C 5 dX11_toMeet_2 rfl kv_X11_193 (c_X11_needPerson hq2) ⟨rfl, rfl⟩ ⟨Nat.le_of_ble_eq_true rfl, Nat.le_of_ble_eq_true rfl⟩ rfl rfl rfl rfl rfl ⟨Nat.zero_le _, Nat.zero_le _⟩ (Nat.le_of_ble_eq_true rfl) ?_
    refine wa_aload_n C 0 6 dX11_toMeet_5 rfl rfl ?_
    refine wa_iload_n C 2 7 dX11_toMeet_6 rfl rfl ?_
    cases hk3 : t_X11_needPerson v v_fam p1 with
    | some k3 =>
      rw [hk3] at hf
      cases hf
      exact wx_callV (b1 := 0) (q1 := 0) (ci := 11) (As := [.int p1]) C E ht dX11_toMeet_7 kv_X11_193 (x_X11_needPerson hl hk3) ⟨rfl, rfl⟩ ⟨Nat.le_of_ble_eq_true rfl, Nat.le_of_ble_eq_true rfl⟩ rfl rfl rfl [0, 1] [] [0, 1] rfl rfl rfl rfl (by decide) rfl rfl rfl rfl ⟨Nat.le_of_ble_eq_true rfl, Nat.le_of_ble_eq_true rfl⟩ (Nat.le_of_ble_eq_true rfl) (Nat.le_of_ble_eq_true rfl) (Nat.le_of_ble_eq_true rfl)
    | none =>
      rw [hk3] at hf
      obtain ⟨q4, hq4, hf⟩ := bind_ex hf
      refine wa_callVAv (b1 := 0) (q1 := 0) (ci := 11) (As := [.int p1]) C 10 dX11_toMeet_7 rfl kv_X11_193 (c_X11_needPerson hq4) ⟨rfl, rfl⟩ ⟨Nat.le_of_ble_eq_true rfl, Nat.le_of_ble_eq_true rfl⟩ rfl rfl rfl rfl rfl ⟨Nat.zero_le _, Nat.zero_le _⟩ (Nat.le_of_ble_eq_true rfl) ?_
      refine wa_aload_n C 0 11 dX11_toMeet_10 rfl rfl ?_
      refine wa_get C 14 0 0 7 dX11_toMeet_11 rfl iX11 q364 rfl (Nat.le_of_ble_eq_true rfl) rfl rfl rfl ?_
      refine wa_iload_n C 1 15 dX11_toMeet_14 rfl rfl ?_
      refine wa_iload_n C 2 16 dX11_toMeet_15 rfl rfl ?_
      cases hf
def t_X11_partners (v : Ob) (v_fam : FS) (p0 : Int32) : Option Nat := (match t_X11_needWhat p0 (1 : Int32) with | some k1 => some k1 | none => (f_X11_needWhat p0 (1 : Int32)).bind (fun q2 => (if p0 = 0 then none else none)))
set_option maxRecDepth 20000 in
theorem x_X11_partners {l : Launch} {D : va_G} {dT : Nat → ClassId} {aK aV : Nat → Nat} {a : Nat → Nat} {a_fam : Nat → Nat → Nat} {h_tape : Nat} {h_reader : Nat} {h_friends : Nat} {h_dusk : Nat} {h_coming : Nat} {h_acts : Nat} {h_seen : Nat} {h_pairs : Nat} {h_trials : Nat} {h_imageNow : Nat} {h_imageActs : Nat} {h_imageSeen : Nat} {v : Ob} {v_fam : FS} {p0 : Int32} {k : Nat} (hl : l.stackTraces = false) (hf : t_X11_partners v v_fam p0 = some k) : CX aK aV l yX11_partners cX11_partners 2 (some .int) ({ frames := 7, cells := 1, slots := 6, locals := 121 } : Room) D dT [.ref (a 0), .int p0] ([wH dT a h_tape h_reader h_friends h_dusk (a_fam 0 0) h_coming h_acts h_seen h_pairs h_trials h_imageNow h_imageActs h_imageSeen v, wRw dT v_fam.1 a_fam v_fam.2.2]) (nmE k) := by
  refine CX.of (by decide) (Nat.le_of_ble_eq_true rfl) rfl ?_
  intro p e s m args below meth c A C E ht
  unfold t_X11_partners at hf
  refine wa_iload_n C 1 1 dX11_partners_0 rfl rfl ?_
  refine wa_iconst (v := 1) C 2 dX11_partners_1 rfl rfl ?_
  cases hk1 : t_X11_needWhat p0 (1 : Int32) with
  | some k1 =>
    rw [hk1] at hf
    cases hf
    exact wx_callS (As := [.int p0, .int (1 : Int32)]) C E ht dX11_partners_2 ks_X11_273 (x_X11_needWhat hl hk1) ⟨rfl, rfl⟩ ⟨Nat.le_of_ble_eq_true rfl, Nat.le_of_ble_eq_true rfl⟩ rfl rfl ⟨Nat.le_of_ble_eq_true rfl, Nat.le_of_ble_eq_true rfl⟩ (Nat.le_of_ble_eq_true rfl) (Nat.le_of_ble_eq_true rfl) (Nat.le_of_ble_eq_true rfl)
  | none =>
    rw [hk1] at hf
    obtain ⟨q2, hq2, hf⟩ := bind_ex hf
    refine wa_callS0v (As := [.int p0, .int (1 : Int32)]) C 5 dX11_partners_2 rfl ks_X11_273 (c_X11_needWhat hq2) ⟨rfl, rfl⟩ ⟨Nat.le_of_ble_eq_true rfl, Nat.le_of_ble_eq_true rfl⟩ rfl rfl ⟨Nat.zero_le _, Nat.zero_le _⟩ (Nat.le_of_ble_eq_true rfl) ?_
    refine wa_iload_n C 1 6 dX11_partners_5 rfl rfl ?_
    refine wa_if_ne C 23 9 dX11_partners_6 rfl rfl (fun c3 => ?_) (fun c3 => ?_)
    · replace hf := ite_f hf c3
      refine wa_aload_n C 0 24 dX11_partners_23 rfl rfl ?_
      cases hf
    · replace hf := ite_t hf c3
      refine wa_aload_n C 0 10 dX11_partners_9 rfl rfl ?_
      cases hf
def t_X11_halves (v : Ob) (v_fam : FS) (p0 : Int32) : Option Nat := (match t_X11_needWhat p0 (1 : Int32) with | some k1 => some k1 | none => (f_X11_needWhat p0 (1 : Int32)).bind (fun q2 => none))
set_option maxRecDepth 20000 in
theorem x_X11_halves {l : Launch} {D : va_G} {dT : Nat → ClassId} {aK aV : Nat → Nat} {a : Nat → Nat} {a_fam : Nat → Nat → Nat} {h_tape : Nat} {h_reader : Nat} {h_friends : Nat} {h_dusk : Nat} {h_coming : Nat} {h_acts : Nat} {h_seen : Nat} {h_pairs : Nat} {h_trials : Nat} {h_imageNow : Nat} {h_imageActs : Nat} {h_imageSeen : Nat} {v : Ob} {v_fam : FS} {p0 : Int32} {k : Nat} (hl : l.stackTraces = false) (hf : t_X11_halves v v_fam p0 = some k) : CX aK aV l yX11_halves cX11_halves 3 (some .int) ({ frames := 7, cells := 1, slots := 6, locals := 121 } : Room) D dT [.ref (a 0), .int p0] ([wH dT a h_tape h_reader h_friends h_dusk (a_fam 0 0) h_coming h_acts h_seen h_pairs h_trials h_imageNow h_imageActs h_imageSeen v, wRw dT v_fam.1 a_fam v_fam.2.2]) (nmE k) := by
  refine CX.of (by decide) (Nat.le_of_ble_eq_true rfl) rfl ?_
  intro p e s m args below meth c A C E ht
  unfold t_X11_halves at hf
  refine wa_iload_n C 1 1 dX11_halves_0 rfl rfl ?_
  refine wa_iconst (v := 1) C 2 dX11_halves_1 rfl rfl ?_
  cases hk1 : t_X11_needWhat p0 (1 : Int32) with
  | some k1 =>
    rw [hk1] at hf
    cases hf
    exact wx_callS (As := [.int p0, .int (1 : Int32)]) C E ht dX11_halves_2 ks_X11_273 (x_X11_needWhat hl hk1) ⟨rfl, rfl⟩ ⟨Nat.le_of_ble_eq_true rfl, Nat.le_of_ble_eq_true rfl⟩ rfl rfl ⟨Nat.le_of_ble_eq_true rfl, Nat.le_of_ble_eq_true rfl⟩ (Nat.le_of_ble_eq_true rfl) (Nat.le_of_ble_eq_true rfl) (Nat.le_of_ble_eq_true rfl)
  | none =>
    rw [hk1] at hf
    obtain ⟨q2, hq2, hf⟩ := bind_ex hf
    refine wa_callS0v (As := [.int p0, .int (1 : Int32)]) C 5 dX11_halves_2 rfl ks_X11_273 (c_X11_needWhat hq2) ⟨rfl, rfl⟩ ⟨Nat.le_of_ble_eq_true rfl, Nat.le_of_ble_eq_true rfl⟩ rfl rfl ⟨Nat.zero_le _, Nat.zero_le _⟩ (Nat.le_of_ble_eq_true rfl) ?_
    refine wa_aload_n C 0 6 dX11_halves_5 rfl rfl ?_
    cases hf
def t_X11_chain (v : Ob) (v_fam : FS) (p0 : Int32) (p1 : Int32) : Option Nat := (match t_X11_needPerson v v_fam p0 with | some k1 => some k1 | none => (f_X11_needPerson v v_fam p0).bind (fun q2 => (match t_X11_needPerson v v_fam p1 with | some k3 => some k3 | none => (f_X11_needPerson v v_fam p1).bind (fun q4 => none))))
set_option maxRecDepth 20000 in
theorem x_X11_chain {l : Launch} {D : va_G} {dT : Nat → ClassId} {aK aV : Nat → Nat} {a : Nat → Nat} {a_fam : Nat → Nat → Nat} {h_tape : Nat} {h_reader : Nat} {h_friends : Nat} {h_dusk : Nat} {h_coming : Nat} {h_acts : Nat} {h_seen : Nat} {h_pairs : Nat} {h_trials : Nat} {h_imageNow : Nat} {h_imageActs : Nat} {h_imageSeen : Nat} {v : Ob} {v_fam : FS} {p0 : Int32} {p1 : Int32} {k : Nat} (hl : l.stackTraces = false) (hf : t_X11_chain v v_fam p0 p1 = some k) : CX aK aV l yX11_chain cX11_chain 3 (some .int) ({ frames := 7, cells := 1, slots := 6, locals := 121 } : Room) D dT [.ref (a 0), .int p0, .int p1] ([wH dT a h_tape h_reader h_friends h_dusk (a_fam 0 0) h_coming h_acts h_seen h_pairs h_trials h_imageNow h_imageActs h_imageSeen v, wRw dT v_fam.1 a_fam v_fam.2.2]) (nmE k) := by
  refine CX.of (by decide) (Nat.le_of_ble_eq_true rfl) rfl ?_
  intro p e s m args below meth c A C E ht
  unfold t_X11_chain at hf
  refine wa_aload_n C 0 1 dX11_chain_0 rfl rfl ?_
  refine wa_iload_n C 1 2 dX11_chain_1 rfl rfl ?_
  cases hk1 : t_X11_needPerson v v_fam p0 with
  | some k1 =>
    rw [hk1] at hf
    cases hf
    exact wx_callV (b1 := 0) (q1 := 0) (ci := 11) (As := [.int p0]) C E ht dX11_chain_2 kv_X11_193 (x_X11_needPerson hl hk1) ⟨rfl, rfl⟩ ⟨Nat.le_of_ble_eq_true rfl, Nat.le_of_ble_eq_true rfl⟩ rfl rfl rfl [0, 1] [] [0, 1] rfl rfl rfl rfl (by decide) rfl rfl rfl rfl ⟨Nat.le_of_ble_eq_true rfl, Nat.le_of_ble_eq_true rfl⟩ (Nat.le_of_ble_eq_true rfl) (Nat.le_of_ble_eq_true rfl) (Nat.le_of_ble_eq_true rfl)
  | none =>
    rw [hk1] at hf
    obtain ⟨q2, hq2, hf⟩ := bind_ex hf
    refine wa_callVAv (b1 := 0) (q1 := 0) (ci := 11) (As := [.int p0]) C 5 dX11_chain_2 rfl kv_X11_193 (c_X11_needPerson hq2) ⟨rfl, rfl⟩ ⟨Nat.le_of_ble_eq_true rfl, Nat.le_of_ble_eq_true rfl⟩ rfl rfl rfl rfl rfl ⟨Nat.zero_le _, Nat.zero_le _⟩ (Nat.le_of_ble_eq_true rfl) ?_
    refine wa_aload_n C 0 6 dX11_chain_5 rfl rfl ?_
    refine wa_iload_n C 2 7 dX11_chain_6 rfl rfl ?_
    cases hk3 : t_X11_needPerson v v_fam p1 with
    | some k3 =>
      rw [hk3] at hf
      cases hf
      exact wx_callV (b1 := 0) (q1 := 0) (ci := 11) (As := [.int p1]) C E ht dX11_chain_7 kv_X11_193 (x_X11_needPerson hl hk3) ⟨rfl, rfl⟩ ⟨Nat.le_of_ble_eq_true rfl, Nat.le_of_ble_eq_true rfl⟩ rfl rfl rfl [0, 1] [] [0, 1] rfl rfl rfl rfl (by decide) rfl rfl rfl rfl ⟨Nat.le_of_ble_eq_true rfl, Nat.le_of_ble_eq_true rfl⟩ (Nat.le_of_ble_eq_true rfl) (Nat.le_of_ble_eq_true rfl) (Nat.le_of_ble_eq_true rfl)
    | none =>
      rw [hk3] at hf
      obtain ⟨q4, hq4, hf⟩ := bind_ex hf
      refine wa_callVAv (b1 := 0) (q1 := 0) (ci := 11) (As := [.int p1]) C 10 dX11_chain_7 rfl kv_X11_193 (c_X11_needPerson hq4) ⟨rfl, rfl⟩ ⟨Nat.le_of_ble_eq_true rfl, Nat.le_of_ble_eq_true rfl⟩ rfl rfl rfl rfl rfl ⟨Nat.zero_le _, Nat.zero_le _⟩ (Nat.le_of_ble_eq_true rfl) ?_
      refine wa_aload_n C 0 11 dX11_chain_10 rfl rfl ?_
      cases hf
def t_X11_see (v : Ob) (v_fam : FS) (p0 : Int32) (p1 : Int32) (p2 : Int32) : Option Nat := (match t_X11_needPerson v v_fam p0 with | some k1 => some k1 | none => (f_X11_needPerson v v_fam p0).bind (fun q2 => none))
set_option maxRecDepth 20000 in
theorem x_X11_see {l : Launch} {D : va_G} {dT : Nat → ClassId} {aK aV : Nat → Nat} {a : Nat → Nat} {a_fam : Nat → Nat → Nat} {h_tape : Nat} {h_reader : Nat} {h_friends : Nat} {h_dusk : Nat} {h_coming : Nat} {h_acts : Nat} {h_seen : Nat} {h_pairs : Nat} {h_trials : Nat} {h_imageNow : Nat} {h_imageActs : Nat} {h_imageSeen : Nat} {v : Ob} {v_fam : FS} {p0 : Int32} {p1 : Int32} {p2 : Int32} {k : Nat} (hl : l.stackTraces = false) (hf : t_X11_see v v_fam p0 p1 p2 = some k) : CX aK aV l yX11_see cX11_see 4 (some .int) ({ frames := 7, cells := 1, slots := 6, locals := 121 } : Room) D dT [.ref (a 0), .int p0, .int p1, .int p2] ([wH dT a h_tape h_reader h_friends h_dusk (a_fam 0 0) h_coming h_acts h_seen h_pairs h_trials h_imageNow h_imageActs h_imageSeen v, wRw dT v_fam.1 a_fam v_fam.2.2]) (nmE k) := by
  refine CX.of (by decide) (Nat.le_of_ble_eq_true rfl) rfl ?_
  intro p e s m args below meth c A C E ht
  unfold t_X11_see at hf
  refine wa_aload_n C 0 1 dX11_see_0 rfl rfl ?_
  refine wa_iload_n C 1 2 dX11_see_1 rfl rfl ?_
  cases hk1 : t_X11_needPerson v v_fam p0 with
  | some k1 =>
    rw [hk1] at hf
    cases hf
    exact wx_callV (b1 := 0) (q1 := 0) (ci := 11) (As := [.int p0]) C E ht dX11_see_2 kv_X11_193 (x_X11_needPerson hl hk1) ⟨rfl, rfl⟩ ⟨Nat.le_of_ble_eq_true rfl, Nat.le_of_ble_eq_true rfl⟩ rfl rfl rfl [0, 1] [] [0, 1] rfl rfl rfl rfl (by decide) rfl rfl rfl rfl ⟨Nat.le_of_ble_eq_true rfl, Nat.le_of_ble_eq_true rfl⟩ (Nat.le_of_ble_eq_true rfl) (Nat.le_of_ble_eq_true rfl) (Nat.le_of_ble_eq_true rfl)
  | none =>
    rw [hk1] at hf
    obtain ⟨q2, hq2, hf⟩ := bind_ex hf
    refine wa_callVAv (b1 := 0) (q1 := 0) (ci := 11) (As := [.int p0]) C 5 dX11_see_2 rfl kv_X11_193 (c_X11_needPerson hq2) ⟨rfl, rfl⟩ ⟨Nat.le_of_ble_eq_true rfl, Nat.le_of_ble_eq_true rfl⟩ rfl rfl rfl rfl rfl ⟨Nat.zero_le _, Nat.zero_le _⟩ (Nat.le_of_ble_eq_true rfl) ?_
    refine wa_aload_n C 0 6 dX11_see_5 rfl rfl ?_
    cases hf
def t_X11_ranked (v : Ob) (v_fam : FS) (p0 : Int32) : Option Nat := (match t_X11_needWhat p0 (2 : Int32) with | some k1 => some k1 | none => (f_X11_needWhat p0 (2 : Int32)).bind (fun q2 => (if p0 = (2 : Int32) then none else none)))
set_option maxRecDepth 20000 in
theorem x_X11_ranked {l : Launch} {D : va_G} {dT : Nat → ClassId} {aK aV : Nat → Nat} {a : Nat → Nat} {a_fam : Nat → Nat → Nat} {h_tape : Nat} {h_reader : Nat} {h_friends : Nat} {h_dusk : Nat} {h_coming : Nat} {h_acts : Nat} {h_seen : Nat} {h_pairs : Nat} {h_trials : Nat} {h_imageNow : Nat} {h_imageActs : Nat} {h_imageSeen : Nat} {v : Ob} {v_fam : FS} {p0 : Int32} {k : Nat} (hl : l.stackTraces = false) (hf : t_X11_ranked v v_fam p0 = some k) : CX aK aV l yX11_ranked cX11_ranked 2 (some .int) ({ frames := 7, cells := 1, slots := 6, locals := 121 } : Room) D dT [.ref (a 0), .int p0] ([wH dT a h_tape h_reader h_friends h_dusk (a_fam 0 0) h_coming h_acts h_seen h_pairs h_trials h_imageNow h_imageActs h_imageSeen v, wRw dT v_fam.1 a_fam v_fam.2.2]) (nmE k) := by
  refine CX.of (by decide) (Nat.le_of_ble_eq_true rfl) rfl ?_
  intro p e s m args below meth c A C E ht
  unfold t_X11_ranked at hf
  refine wa_iload_n C 1 1 dX11_ranked_0 rfl rfl ?_
  refine wa_iconst (v := 2) C 2 dX11_ranked_1 rfl rfl ?_
  cases hk1 : t_X11_needWhat p0 (2 : Int32) with
  | some k1 =>
    rw [hk1] at hf
    cases hf
    exact wx_callS (As := [.int p0, .int (2 : Int32)]) C E ht dX11_ranked_2 ks_X11_273 (x_X11_needWhat hl hk1) ⟨rfl, rfl⟩ ⟨Nat.le_of_ble_eq_true rfl, Nat.le_of_ble_eq_true rfl⟩ rfl rfl ⟨Nat.le_of_ble_eq_true rfl, Nat.le_of_ble_eq_true rfl⟩ (Nat.le_of_ble_eq_true rfl) (Nat.le_of_ble_eq_true rfl) (Nat.le_of_ble_eq_true rfl)
  | none =>
    rw [hk1] at hf
    obtain ⟨q2, hq2, hf⟩ := bind_ex hf
    refine wa_callS0v (As := [.int p0, .int (2 : Int32)]) C 5 dX11_ranked_2 rfl ks_X11_273 (c_X11_needWhat hq2) ⟨rfl, rfl⟩ ⟨Nat.le_of_ble_eq_true rfl, Nat.le_of_ble_eq_true rfl⟩ rfl rfl ⟨Nat.zero_le _, Nat.zero_le _⟩ (Nat.le_of_ble_eq_true rfl) ?_
    refine wa_iload_n C 1 6 dX11_ranked_5 rfl rfl ?_
    refine wa_iconst (v := 2) C 7 dX11_ranked_6 rfl rfl ?_
    refine wa_icmp_ne C 34 10 dX11_ranked_7 rfl rfl (fun c3 => ?_) (fun c3 => ?_)
    · replace hf := ite_f hf c3
      refine wa_aload_n C 0 35 dX11_ranked_34 rfl rfl ?_
      cases hf
    · replace hf := ite_t hf c3
      refine wa_aload_n C 0 11 dX11_ranked_10 rfl rfl ?_
      cases hf
def t_X11_look (v : Ob) (v_fam : FS) (p0 : Int32) : Option Nat := (match t_X11_needWhat p0 (1 : Int32) with | some k1 => some k1 | none => (f_X11_needWhat p0 (1 : Int32)).bind (fun q2 => none))
set_option maxRecDepth 20000 in
theorem x_X11_look {l : Launch} {D : va_G} {dT : Nat → ClassId} {aK aV : Nat → Nat} {a : Nat → Nat} {a_fam : Nat → Nat → Nat} {h_tape : Nat} {h_reader : Nat} {h_friends : Nat} {h_dusk : Nat} {h_coming : Nat} {h_acts : Nat} {h_seen : Nat} {h_pairs : Nat} {h_trials : Nat} {h_imageNow : Nat} {h_imageActs : Nat} {h_imageSeen : Nat} {v : Ob} {v_fam : FS} {p0 : Int32} {k : Nat} (hl : l.stackTraces = false) (hf : t_X11_look v v_fam p0 = some k) : CX aK aV l yX11_look cX11_look 3 (some .int) ({ frames := 7, cells := 1, slots := 6, locals := 121 } : Room) D dT [.ref (a 0), .int p0] ([wH dT a h_tape h_reader h_friends h_dusk (a_fam 0 0) h_coming h_acts h_seen h_pairs h_trials h_imageNow h_imageActs h_imageSeen v, wRw dT v_fam.1 a_fam v_fam.2.2]) (nmE k) := by
  refine CX.of (by decide) (Nat.le_of_ble_eq_true rfl) rfl ?_
  intro p e s m args below meth c A C E ht
  unfold t_X11_look at hf
  refine wa_iload_n C 1 1 dX11_look_0 rfl rfl ?_
  refine wa_iconst (v := 1) C 2 dX11_look_1 rfl rfl ?_
  cases hk1 : t_X11_needWhat p0 (1 : Int32) with
  | some k1 =>
    rw [hk1] at hf
    cases hf
    exact wx_callS (As := [.int p0, .int (1 : Int32)]) C E ht dX11_look_2 ks_X11_273 (x_X11_needWhat hl hk1) ⟨rfl, rfl⟩ ⟨Nat.le_of_ble_eq_true rfl, Nat.le_of_ble_eq_true rfl⟩ rfl rfl ⟨Nat.le_of_ble_eq_true rfl, Nat.le_of_ble_eq_true rfl⟩ (Nat.le_of_ble_eq_true rfl) (Nat.le_of_ble_eq_true rfl) (Nat.le_of_ble_eq_true rfl)
  | none =>
    rw [hk1] at hf
    obtain ⟨q2, hq2, hf⟩ := bind_ex hf
    refine wa_callS0v (As := [.int p0, .int (1 : Int32)]) C 5 dX11_look_2 rfl ks_X11_273 (c_X11_needWhat hq2) ⟨rfl, rfl⟩ ⟨Nat.le_of_ble_eq_true rfl, Nat.le_of_ble_eq_true rfl⟩ rfl rfl ⟨Nat.zero_le _, Nat.zero_le _⟩ (Nat.le_of_ble_eq_true rfl) ?_
    refine wa_aload_n C 0 6 dX11_look_5 rfl rfl ?_
    cases hf
def t_X11_storms (v : Ob) (v_fam : FS) (p0 : Int32) (p1 : Int32) (p2 : Int32) (p3 : Int32) : Option Nat := (match t_X11_needPerson v v_fam p0 with | some k1 => some k1 | none => (f_X11_needPerson v v_fam p0).bind (fun q2 => (match t_X11_needPerson v v_fam p1 with | some k3 => some k3 | none => (f_X11_needPerson v v_fam p1).bind (fun q4 => (match t_X11_needWithin p2 (1 : Int32) (5 : Int32) with | some k5 => some k5 | none => (f_X11_needWithin p2 (1 : Int32) (5 : Int32)).bind (fun q6 => (match t_X11_needWithin p3 (0 : Int32) (10 : Int32) with | some k7 => some k7 | none => (f_X11_needWithin p3 (0 : Int32) (10 : Int32)).bind (fun q8 => none))))))))
set_option maxRecDepth 20000 in
theorem x_X11_storms {l : Launch} {D : va_G} {dT : Nat → ClassId} {aK aV : Nat → Nat} {a : Nat → Nat} {a_fam : Nat → Nat → Nat} {h_tape : Nat} {h_reader : Nat} {h_friends : Nat} {h_dusk : Nat} {h_coming : Nat} {h_acts : Nat} {h_seen : Nat} {h_pairs : Nat} {h_trials : Nat} {h_imageNow : Nat} {h_imageActs : Nat} {h_imageSeen : Nat} {v : Ob} {v_fam : FS} {p0 : Int32} {p1 : Int32} {p2 : Int32} {p3 : Int32} {k : Nat} (hl : l.stackTraces = false) (hf : t_X11_storms v v_fam p0 p1 p2 p3 = some k) : CX aK aV l yX11_storms cX11_storms 5 (some .int) ({ frames := 7, cells := 1, slots := 6, locals := 122 } : Room) D dT [.ref (a 0), .int p0, .int p1, .int p2, .int p3] ([wH dT a h_tape h_reader h_friends h_dusk (a_fam 0 0) h_coming h_acts h_seen h_pairs h_trials h_imageNow h_imageActs h_imageSeen v, wRw dT v_fam.1 a_fam v_fam.2.2]) (nmE k) := by
  refine CX.of (by decide) (Nat.le_of_ble_eq_true rfl) rfl ?_
  intro p e s m args below meth c A C E ht
  unfold t_X11_storms at hf
  refine wa_aload_n C 0 1 dX11_storms_0 rfl rfl ?_
  refine wa_iload_n C 1 2 dX11_storms_1 rfl rfl ?_
  cases hk1 : t_X11_needPerson v v_fam p0 with
  | some k1 =>
    rw [hk1] at hf
    cases hf
    exact wx_callV (b1 := 0) (q1 := 0) (ci := 11) (As := [.int p0]) C E ht dX11_storms_2 kv_X11_193 (x_X11_needPerson hl hk1) ⟨rfl, rfl⟩ ⟨Nat.le_of_ble_eq_true rfl, Nat.le_of_ble_eq_true rfl⟩ rfl rfl rfl [0, 1] [] [0, 1] rfl rfl rfl rfl (by decide) rfl rfl rfl rfl ⟨Nat.le_of_ble_eq_true rfl, Nat.le_of_ble_eq_true rfl⟩ (Nat.le_of_ble_eq_true rfl) (Nat.le_of_ble_eq_true rfl) (Nat.le_of_ble_eq_true rfl)
  | none =>
    rw [hk1] at hf
    obtain ⟨q2, hq2, hf⟩ := bind_ex hf
    refine wa_callVAv (b1 := 0) (q1 := 0) (ci := 11) (As := [.int p0]) C 5 dX11_storms_2 rfl kv_X11_193 (c_X11_needPerson hq2) ⟨rfl, rfl⟩ ⟨Nat.le_of_ble_eq_true rfl, Nat.le_of_ble_eq_true rfl⟩ rfl rfl rfl rfl rfl ⟨Nat.zero_le _, Nat.zero_le _⟩ (Nat.le_of_ble_eq_true rfl) ?_
    refine wa_aload_n C 0 6 dX11_storms_5 rfl rfl ?_
    refine wa_iload_n C 2 7 dX11_storms_6 rfl rfl ?_
    cases hk3 : t_X11_needPerson v v_fam p1 with
    | some k3 =>
      rw [hk3] at hf
      cases hf
      exact wx_callV (b1 := 0) (q1 := 0) (ci := 11) (As := [.int p1]) C E ht dX11_storms_7 kv_X11_193 (x_X11_needPerson hl hk3) ⟨rfl, rfl⟩ ⟨Nat.le_of_ble_eq_true rfl, Nat.le_of_ble_eq_true rfl⟩ rfl rfl rfl [0, 1] [] [0, 1] rfl rfl rfl rfl (by decide) rfl rfl rfl rfl ⟨Nat.le_of_ble_eq_true rfl, Nat.le_of_ble_eq_true rfl⟩ (Nat.le_of_ble_eq_true rfl) (Nat.le_of_ble_eq_true rfl) (Nat.le_of_ble_eq_true rfl)
    | none =>
      rw [hk3] at hf
      obtain ⟨q4, hq4, hf⟩ := bind_ex hf
      refine wa_callVAv (b1 := 0) (q1 := 0) (ci := 11) (As := [.int p1]) C 10 dX11_storms_7 rfl kv_X11_193 (c_X11_needPerson hq4) ⟨rfl, rfl⟩ ⟨Nat.le_of_ble_eq_true rfl, Nat.le_of_ble_eq_true rfl⟩ rfl rfl rfl rfl rfl ⟨Nat.zero_le _, Nat.zero_le _⟩ (Nat.le_of_ble_eq_true rfl) ?_
      refine wa_iload_n C 3 11 dX11_storms_10 rfl rfl ?_
      refine wa_iconst (v := 1) C 12 dX11_storms_11 rfl rfl ?_
      refine wa_iconst (v := 5) C 13 dX11_storms_12 rfl rfl ?_
      cases hk5 : t_X11_needWithin p2 (1 : Int32) (5 : Int32) with
      | some k5 =>
        rw [hk5] at hf
        cases hf
        exact wx_callS (As := [.int p2, .int (1 : Int32), .int (5 : Int32)]) C E ht dX11_storms_13 ks_X11_276 (x_X11_needWithin hl hk5) ⟨rfl, rfl⟩ ⟨Nat.le_of_ble_eq_true rfl, Nat.le_of_ble_eq_true rfl⟩ rfl rfl ⟨Nat.le_of_ble_eq_true rfl, Nat.le_of_ble_eq_true rfl⟩ (Nat.le_of_ble_eq_true rfl) (Nat.le_of_ble_eq_true rfl) (Nat.le_of_ble_eq_true rfl)
      | none =>
        rw [hk5] at hf
        obtain ⟨q6, hq6, hf⟩ := bind_ex hf
        refine wa_callS0v (As := [.int p2, .int (1 : Int32), .int (5 : Int32)]) C 16 dX11_storms_13 rfl ks_X11_276 (c_X11_needWithin hq6) ⟨rfl, rfl⟩ ⟨Nat.le_of_ble_eq_true rfl, Nat.le_of_ble_eq_true rfl⟩ rfl rfl ⟨Nat.zero_le _, Nat.zero_le _⟩ (Nat.le_of_ble_eq_true rfl) ?_
        refine wa_iload C 4 18 dX11_storms_16 rfl rfl ?_
        refine wa_iconst (v := 0) C 19 dX11_storms_18 rfl rfl ?_
        refine wa_bipush (v := 10) C 21 dX11_storms_19 rfl rfl ?_
        cases hk7 : t_X11_needWithin p3 (0 : Int32) (10 : Int32) with
        | some k7 =>
          rw [hk7] at hf
          cases hf
          exact wx_callS (As := [.int p3, .int (0 : Int32), .int (10 : Int32)]) C E ht dX11_storms_21 ks_X11_276 (x_X11_needWithin hl hk7) ⟨rfl, rfl⟩ ⟨Nat.le_of_ble_eq_true rfl, Nat.le_of_ble_eq_true rfl⟩ rfl rfl ⟨Nat.le_of_ble_eq_true rfl, Nat.le_of_ble_eq_true rfl⟩ (Nat.le_of_ble_eq_true rfl) (Nat.le_of_ble_eq_true rfl) (Nat.le_of_ble_eq_true rfl)
        | none =>
          rw [hk7] at hf
          obtain ⟨q8, hq8, hf⟩ := bind_ex hf
          refine wa_callS0v (As := [.int p3, .int (0 : Int32), .int (10 : Int32)]) C 24 dX11_storms_21 rfl ks_X11_276 (c_X11_needWithin hq8) ⟨rfl, rfl⟩ ⟨Nat.le_of_ble_eq_true rfl, Nat.le_of_ble_eq_true rfl⟩ rfl rfl ⟨Nat.zero_le _, Nat.zero_le _⟩ (Nat.le_of_ble_eq_true rfl) ?_
          refine wa_aload_n C 0 25 dX11_storms_24 rfl rfl ?_
          cases hf
def t_X11_game (v : Ob) (v_fam : FS) (p0 : Int32) (p1 : Int32) (p2 : Int32) : Option Nat := (match t_X11_needPerson v v_fam p0 with | some k1 => some k1 | none => (f_X11_needPerson v v_fam p0).bind (fun q2 => (match t_X11_needPerson v v_fam p1 with | some k3 => some k3 | none => (f_X11_needPerson v v_fam p1).bind (fun q4 => (match t_X11_needWhat p2 (1 : Int32) with | some k5 => some k5 | none => (f_X11_needWhat p2 (1 : Int32)).bind (fun q6 => (if p0 = p1 then some 2 else none)))))))
set_option maxRecDepth 20000 in
theorem x_X11_game {l : Launch} {D : va_G} {dT : Nat → ClassId} {aK aV : Nat → Nat} {a : Nat → Nat} {a_fam : Nat → Nat → Nat} {h_tape : Nat} {h_reader : Nat} {h_friends : Nat} {h_dusk : Nat} {h_coming : Nat} {h_acts : Nat} {h_seen : Nat} {h_pairs : Nat} {h_trials : Nat} {h_imageNow : Nat} {h_imageActs : Nat} {h_imageSeen : Nat} {v : Ob} {v_fam : FS} {p0 : Int32} {p1 : Int32} {p2 : Int32} {k : Nat} (hl : l.stackTraces = false) (hf : t_X11_game v v_fam p0 p1 p2 = some k) : CX aK aV l yX11_game cX11_game 4 (some .int) ({ frames := 7, cells := 1, slots := 6, locals := 121 } : Room) D dT [.ref (a 0), .int p0, .int p1, .int p2] ([wH dT a h_tape h_reader h_friends h_dusk (a_fam 0 0) h_coming h_acts h_seen h_pairs h_trials h_imageNow h_imageActs h_imageSeen v, wRw dT v_fam.1 a_fam v_fam.2.2]) (nmE k) := by
  refine CX.of (by decide) (Nat.le_of_ble_eq_true rfl) rfl ?_
  intro p e s m args below meth c A C E ht
  unfold t_X11_game at hf
  refine wa_aload_n C 0 1 dX11_game_0 rfl rfl ?_
  refine wa_iload_n C 1 2 dX11_game_1 rfl rfl ?_
  cases hk1 : t_X11_needPerson v v_fam p0 with
  | some k1 =>
    rw [hk1] at hf
    cases hf
    exact wx_callV (b1 := 0) (q1 := 0) (ci := 11) (As := [.int p0]) C E ht dX11_game_2 kv_X11_193 (x_X11_needPerson hl hk1) ⟨rfl, rfl⟩ ⟨Nat.le_of_ble_eq_true rfl, Nat.le_of_ble_eq_true rfl⟩ rfl rfl rfl [0, 1] [] [0, 1] rfl rfl rfl rfl (by decide) rfl rfl rfl rfl ⟨Nat.le_of_ble_eq_true rfl, Nat.le_of_ble_eq_true rfl⟩ (Nat.le_of_ble_eq_true rfl) (Nat.le_of_ble_eq_true rfl) (Nat.le_of_ble_eq_true rfl)
  | none =>
    rw [hk1] at hf
    obtain ⟨q2, hq2, hf⟩ := bind_ex hf
    refine wa_callVAv (b1 := 0) (q1 := 0) (ci := 11) (As := [.int p0]) C 5 dX11_game_2 rfl kv_X11_193 (c_X11_needPerson hq2) ⟨rfl, rfl⟩ ⟨Nat.le_of_ble_eq_true rfl, Nat.le_of_ble_eq_true rfl⟩ rfl rfl rfl rfl rfl ⟨Nat.zero_le _, Nat.zero_le _⟩ (Nat.le_of_ble_eq_true rfl) ?_
    refine wa_aload_n C 0 6 dX11_game_5 rfl rfl ?_
    refine wa_iload_n C 2 7 dX11_game_6 rfl rfl ?_
    cases hk3 : t_X11_needPerson v v_fam p1 with
    | some k3 =>
      rw [hk3] at hf
      cases hf
      exact wx_callV (b1 := 0) (q1 := 0) (ci := 11) (As := [.int p1]) C E ht dX11_game_7 kv_X11_193 (x_X11_needPerson hl hk3) ⟨rfl, rfl⟩ ⟨Nat.le_of_ble_eq_true rfl, Nat.le_of_ble_eq_true rfl⟩ rfl rfl rfl [0, 1] [] [0, 1] rfl rfl rfl rfl (by decide) rfl rfl rfl rfl ⟨Nat.le_of_ble_eq_true rfl, Nat.le_of_ble_eq_true rfl⟩ (Nat.le_of_ble_eq_true rfl) (Nat.le_of_ble_eq_true rfl) (Nat.le_of_ble_eq_true rfl)
    | none =>
      rw [hk3] at hf
      obtain ⟨q4, hq4, hf⟩ := bind_ex hf
      refine wa_callVAv (b1 := 0) (q1 := 0) (ci := 11) (As := [.int p1]) C 10 dX11_game_7 rfl kv_X11_193 (c_X11_needPerson hq4) ⟨rfl, rfl⟩ ⟨Nat.le_of_ble_eq_true rfl, Nat.le_of_ble_eq_true rfl⟩ rfl rfl rfl rfl rfl ⟨Nat.zero_le _, Nat.zero_le _⟩ (Nat.le_of_ble_eq_true rfl) ?_
      refine wa_iload_n C 3 11 dX11_game_10 rfl rfl ?_
      refine wa_iconst (v := 1) C 12 dX11_game_11 rfl rfl ?_
      cases hk5 : t_X11_needWhat p2 (1 : Int32) with
      | some k5 =>
        rw [hk5] at hf
        cases hf
        exact wx_callS (As := [.int p2, .int (1 : Int32)]) C E ht dX11_game_12 ks_X11_273 (x_X11_needWhat hl hk5) ⟨rfl, rfl⟩ ⟨Nat.le_of_ble_eq_true rfl, Nat.le_of_ble_eq_true rfl⟩ rfl rfl ⟨Nat.le_of_ble_eq_true rfl, Nat.le_of_ble_eq_true rfl⟩ (Nat.le_of_ble_eq_true rfl) (Nat.le_of_ble_eq_true rfl) (Nat.le_of_ble_eq_true rfl)
      | none =>
        rw [hk5] at hf
        obtain ⟨q6, hq6, hf⟩ := bind_ex hf
        refine wa_callS0v (As := [.int p2, .int (1 : Int32)]) C 15 dX11_game_12 rfl ks_X11_273 (c_X11_needWhat hq6) ⟨rfl, rfl⟩ ⟨Nat.le_of_ble_eq_true rfl, Nat.le_of_ble_eq_true rfl⟩ rfl rfl ⟨Nat.zero_le _, Nat.zero_le _⟩ (Nat.le_of_ble_eq_true rfl) ?_
        refine wa_iload_n C 1 16 dX11_game_15 rfl rfl ?_
        refine wa_iload_n C 2 17 dX11_game_16 rfl rfl ?_
        refine wa_icmp_ne C 31 20 dX11_game_17 rfl rfl (fun c7 => ?_) (fun c7 => ?_)
        · replace hf := ite_f hf c7
          refine wa_aload_n C 0 32 dX11_game_31 rfl rfl ?_
          cases hf
        · replace hf := ite_t hf c7
          cases hf
          exact wx_throw (cls := nmE 2) C E hl ht 25 dX11_game_20 dX11_game_23 (Or.inr ⟨dX11_game_24, rfl⟩) dX11_game_27 dX11_game_30 rfl (by decide) bp2_0 bp2_1 bp2_2 bp2_5 q619 q17 nxt2 (Nat.le_of_ble_eq_true rfl) (Nat.le_of_ble_eq_true rfl) (Nat.le_of_ble_eq_true rfl) (Nat.le_of_ble_eq_true rfl) (Nat.le_of_ble_eq_true rfl) (Nat.le_of_ble_eq_true rfl)
def t_X11_years (v : Ob) (v_fam : FS) (p0 : Int32) (p1 : Int32) (p2 : Int32) : Option Nat := (match t_X11_needWhat p2 (2 : Int32) with | some k1 => some k1 | none => (f_X11_needWhat p2 (2 : Int32)).bind (fun q2 => (match t_X11_needWithin p1 (0 : Int32) (100 : Int32) with | some k3 => some k3 | none => (f_X11_needWithin p1 (0 : Int32) (100 : Int32)).bind (fun q4 => none))))
set_option maxRecDepth 20000 in
theorem x_X11_years {l : Launch} {D : va_G} {dT : Nat → ClassId} {aK aV : Nat → Nat} {a : Nat → Nat} {a_fam : Nat → Nat → Nat} {h_tape : Nat} {h_reader : Nat} {h_friends : Nat} {h_dusk : Nat} {h_coming : Nat} {h_acts : Nat} {h_seen : Nat} {h_pairs : Nat} {h_trials : Nat} {h_imageNow : Nat} {h_imageActs : Nat} {h_imageSeen : Nat} {v : Ob} {v_fam : FS} {p0 : Int32} {p1 : Int32} {p2 : Int32} {k : Nat} (hl : l.stackTraces = false) (hf : t_X11_years v v_fam p0 p1 p2 = some k) : CX aK aV l yX11_years cX11_years 4 (some .int) ({ frames := 7, cells := 1, slots := 6, locals := 122 } : Room) D dT [.ref (a 0), .int p0, .int p1, .int p2] ([wH dT a h_tape h_reader h_friends h_dusk (a_fam 0 0) h_coming h_acts h_seen h_pairs h_trials h_imageNow h_imageActs h_imageSeen v, wRw dT v_fam.1 a_fam v_fam.2.2]) (nmE k) := by
  refine CX.of (by decide) (Nat.le_of_ble_eq_true rfl) rfl ?_
  intro p e s m args below meth c A C E ht
  unfold t_X11_years at hf
  refine wa_iload_n C 3 1 dX11_years_0 rfl rfl ?_
  refine wa_iconst (v := 2) C 2 dX11_years_1 rfl rfl ?_
  cases hk1 : t_X11_needWhat p2 (2 : Int32) with
  | some k1 =>
    rw [hk1] at hf
    cases hf
    exact wx_callS (As := [.int p2, .int (2 : Int32)]) C E ht dX11_years_2 ks_X11_273 (x_X11_needWhat hl hk1) ⟨rfl, rfl⟩ ⟨Nat.le_of_ble_eq_true rfl, Nat.le_of_ble_eq_true rfl⟩ rfl rfl ⟨Nat.le_of_ble_eq_true rfl, Nat.le_of_ble_eq_true rfl⟩ (Nat.le_of_ble_eq_true rfl) (Nat.le_of_ble_eq_true rfl) (Nat.le_of_ble_eq_true rfl)
  | none =>
    rw [hk1] at hf
    obtain ⟨q2, hq2, hf⟩ := bind_ex hf
    refine wa_callS0v (As := [.int p2, .int (2 : Int32)]) C 5 dX11_years_2 rfl ks_X11_273 (c_X11_needWhat hq2) ⟨rfl, rfl⟩ ⟨Nat.le_of_ble_eq_true rfl, Nat.le_of_ble_eq_true rfl⟩ rfl rfl ⟨Nat.zero_le _, Nat.zero_le _⟩ (Nat.le_of_ble_eq_true rfl) ?_
    refine wa_iload_n C 2 6 dX11_years_5 rfl rfl ?_
    refine wa_iconst (v := 0) C 7 dX11_years_6 rfl rfl ?_
    refine wa_bipush (v := 100) C 9 dX11_years_7 rfl rfl ?_
    cases hk3 : t_X11_needWithin p1 (0 : Int32) (100 : Int32) with
    | some k3 =>
      rw [hk3] at hf
      cases hf
      exact wx_callS (As := [.int p1, .int (0 : Int32), .int (100 : Int32)]) C E ht dX11_years_9 ks_X11_276 (x_X11_needWithin hl hk3) ⟨rfl, rfl⟩ ⟨Nat.le_of_ble_eq_true rfl, Nat.le_of_ble_eq_true rfl⟩ rfl rfl ⟨Nat.le_of_ble_eq_true rfl, Nat.le_of_ble_eq_true rfl⟩ (Nat.le_of_ble_eq_true rfl) (Nat.le_of_ble_eq_true rfl) (Nat.le_of_ble_eq_true rfl)
    | none =>
      rw [hk3] at hf
      obtain ⟨q4, hq4, hf⟩ := bind_ex hf
      refine wa_callS0v (As := [.int p1, .int (0 : Int32), .int (100 : Int32)]) C 12 dX11_years_9 rfl ks_X11_276 (c_X11_needWithin hq4) ⟨rfl, rfl⟩ ⟨Nat.le_of_ble_eq_true rfl, Nat.le_of_ble_eq_true rfl⟩ rfl rfl ⟨Nat.zero_le _, Nat.zero_le _⟩ (Nat.le_of_ble_eq_true rfl) ?_
      refine wa_aload_n C 0 13 dX11_years_12 rfl rfl ?_
      cases hf
def t_X11_ahead (v : Ob) (v_fam : FS) (p0 : Int32) (p1 : Int32) : Option Nat := (match t_X11_needWhat p1 (3 : Int32) with | some k1 => some k1 | none => (f_X11_needWhat p1 (3 : Int32)).bind (fun q2 => (match t_X11_needWithin p0 (0 : Int32) (100 : Int32) with | some k3 => some k3 | none => (f_X11_needWithin p0 (0 : Int32) (100 : Int32)).bind (fun q4 => (if p1 = 0 then none else (if p1 = 1 then none else (if p1 = 2 then none else none)))))))
set_option maxRecDepth 20000 in
theorem x_X11_ahead {l : Launch} {D : va_G} {dT : Nat → ClassId} {aK aV : Nat → Nat} {a : Nat → Nat} {a_fam : Nat → Nat → Nat} {h_tape : Nat} {h_reader : Nat} {h_friends : Nat} {h_dusk : Nat} {h_coming : Nat} {h_acts : Nat} {h_seen : Nat} {h_pairs : Nat} {h_trials : Nat} {h_imageNow : Nat} {h_imageActs : Nat} {h_imageSeen : Nat} {v : Ob} {v_fam : FS} {p0 : Int32} {p1 : Int32} {k : Nat} (hl : l.stackTraces = false) (hf : t_X11_ahead v v_fam p0 p1 = some k) : CX aK aV l yX11_ahead cX11_ahead 3 (some .int) ({ frames := 7, cells := 1, slots := 6, locals := 122 } : Room) D dT [.ref (a 0), .int p0, .int p1] ([wH dT a h_tape h_reader h_friends h_dusk (a_fam 0 0) h_coming h_acts h_seen h_pairs h_trials h_imageNow h_imageActs h_imageSeen v, wRw dT v_fam.1 a_fam v_fam.2.2]) (nmE k) := by
  refine CX.of (by decide) (Nat.le_of_ble_eq_true rfl) rfl ?_
  intro p e s m args below meth c A C E ht
  unfold t_X11_ahead at hf
  refine wa_iload_n C 2 1 dX11_ahead_0 rfl rfl ?_
  refine wa_iconst (v := 3) C 2 dX11_ahead_1 rfl rfl ?_
  cases hk1 : t_X11_needWhat p1 (3 : Int32) with
  | some k1 =>
    rw [hk1] at hf
    cases hf
    exact wx_callS (As := [.int p1, .int (3 : Int32)]) C E ht dX11_ahead_2 ks_X11_273 (x_X11_needWhat hl hk1) ⟨rfl, rfl⟩ ⟨Nat.le_of_ble_eq_true rfl, Nat.le_of_ble_eq_true rfl⟩ rfl rfl ⟨Nat.le_of_ble_eq_true rfl, Nat.le_of_ble_eq_true rfl⟩ (Nat.le_of_ble_eq_true rfl) (Nat.le_of_ble_eq_true rfl) (Nat.le_of_ble_eq_true rfl)
  | none =>
    rw [hk1] at hf
    obtain ⟨q2, hq2, hf⟩ := bind_ex hf
    refine wa_callS0v (As := [.int p1, .int (3 : Int32)]) C 5 dX11_ahead_2 rfl ks_X11_273 (c_X11_needWhat hq2) ⟨rfl, rfl⟩ ⟨Nat.le_of_ble_eq_true rfl, Nat.le_of_ble_eq_true rfl⟩ rfl rfl ⟨Nat.zero_le _, Nat.zero_le _⟩ (Nat.le_of_ble_eq_true rfl) ?_
    refine wa_iload_n C 1 6 dX11_ahead_5 rfl rfl ?_
    refine wa_iconst (v := 0) C 7 dX11_ahead_6 rfl rfl ?_
    refine wa_bipush (v := 100) C 9 dX11_ahead_7 rfl rfl ?_
    cases hk3 : t_X11_needWithin p0 (0 : Int32) (100 : Int32) with
    | some k3 =>
      rw [hk3] at hf
      cases hf
      exact wx_callS (As := [.int p0, .int (0 : Int32), .int (100 : Int32)]) C E ht dX11_ahead_9 ks_X11_276 (x_X11_needWithin hl hk3) ⟨rfl, rfl⟩ ⟨Nat.le_of_ble_eq_true rfl, Nat.le_of_ble_eq_true rfl⟩ rfl rfl ⟨Nat.le_of_ble_eq_true rfl, Nat.le_of_ble_eq_true rfl⟩ (Nat.le_of_ble_eq_true rfl) (Nat.le_of_ble_eq_true rfl) (Nat.le_of_ble_eq_true rfl)
    | none =>
      rw [hk3] at hf
      obtain ⟨q4, hq4, hf⟩ := bind_ex hf
      refine wa_callS0v (As := [.int p0, .int (0 : Int32), .int (100 : Int32)]) C 12 dX11_ahead_9 rfl ks_X11_276 (c_X11_needWithin hq4) ⟨rfl, rfl⟩ ⟨Nat.le_of_ble_eq_true rfl, Nat.le_of_ble_eq_true rfl⟩ rfl rfl ⟨Nat.zero_le _, Nat.zero_le _⟩ (Nat.le_of_ble_eq_true rfl) ?_
      refine wa_iload_n C 2 13 dX11_ahead_12 rfl rfl ?_
      by_cases c5 : p1 = 0
      · replace hf := ite_t hf c5
        cases hf
      · replace hf := ite_f hf c5
        by_cases c6 : p1 = 1
        · replace hf := ite_t hf c6
          cases hf
        · replace hf := ite_f hf c6
          by_cases c7 : p1 = 2
          · replace hf := ite_t hf c7
            cases hf
          · replace hf := ite_f hf c7
            refine wa_tsd C 73 dX11_ahead_13 (ts_out (0) 3 (nts_s (nts_s (nts_s nts_0 rfl c5) rfl c6) rfl c7)) rfl ?_
            refine wa_aload_n C 0 74 dX11_ahead_73 rfl rfl ?_
            cases hf
