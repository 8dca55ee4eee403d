set_option maxRecDepth 20000 in
theorem x2_L_village {l : Launch} {D : va_G} {dT : Nat → ClassId} {aK aV : Nat → Nat} {a0 : Nat → Nat} {a0_fam : Nat → Nat → Nat} {b2 : Nat} {h_tape : Nat} {h_reader : Nat} {h_friends : Nat} {h_dusk : Nat} {h_coming : Nat} {h_acts : Nat} {h_seen : Nat} {h_pairs : Nat} {h_trials : Nat} {h_imageNow : Nat} {h_imageActs : Nat} {h_imageSeen : Nat} {v0 : Ob} {v0_fam : FS} {u2 : (Nat → Int64)} {p1 : Int32} (hl : l.stackTraces = false) (hf : t_X11_village v0 v0_fam p1 = some 2) : CWi aK aV l yL_village cL_village 4 [((0 : Nat), (9 : Nat), (12 : Nat), (13 : Nat))] ({ frames := 7, cells := 1, slots := 6, locals := 122 } : Room) D dT [.ref (a0 0), .int p1, .ref b2] ([wH dT a0 h_tape h_reader h_friends h_dusk (a0_fam 0 0) h_coming h_acts h_seen h_pairs h_trials h_imageNow h_imageActs h_imageSeen v0, wRw dT v0_fam.1 a0_fam v0_fam.2.2, [(b2, .inl (dT 1, 1, .inr (.inl u2)))]]) (fun _ : Unit => True) (fun _ : Unit => [wH dT a0 h_tape h_reader h_friends h_dusk (a0_fam 0 0) h_coming h_acts h_seen h_pairs h_trials h_imageNow h_imageActs h_imageSeen v0, wRw dT v0_fam.1 a0_fam v0_fam.2.2, [(b2, .inl (dT 1, 1, .inr (.inl u2)))]]) 1 1 6 := by
  refine CWi.of (by decide) (Nat.le_of_ble_eq_true rfl) rfl ?_
  intro p e s m args below meth c A C E htab
  refine wa_aload_n C 2 1 dL_village_0 rfl rfl ?_
  refine wa_iconst (v := 0) C 2 dL_village_1 rfl rfl ?_
  refine wa_aload_n C 0 3 dL_village_2 rfl rfl ?_
  refine wa_iload_n C 1 4 dL_village_3 rfl rfl ?_
  refine wx_catch1 (b1 := 0) (q1 := 0) (ci := 11) (As := [.int p1]) C E htab ({ startPc := 0, endPc := 9, handlerPc := 12, catchType := 13 } : ExceptionTableEntry) [] rfl dL_village_4 kv_L_7 (x_X11_village hl hf) ⟨rfl, rfl⟩ ⟨Nat.le_of_ble_eq_true rfl, Nat.le_of_ble_eq_true rfl⟩ rfl rfl rfl [0, 1] [2] [1, 2, 0] rfl rfl rfl rfl (by decide) rfl rfl rfl rfl ⟨Nat.le_of_ble_eq_true rfl, Nat.le_of_ble_eq_true rfl⟩ (Nat.le_of_ble_eq_true rfl) rfl (by decide) q614 cast2 (fun q9 => ?_)
  refine wa_astore_n (lv' := [(0, .ref (a0 0)), (1, .int p1), (2, .ref b2), (3, .ref q9)]) C [1, 2, 3, 0] 13 dL_village_12 rfl (Nat.le_of_ble_eq_true rfl) rfl ?_
  refine wa_iconst (v := 1) C 14 dL_village_13 rfl rfl ?_
  exact wa_irm C () dL_village_14 trivial rfl rfl (Nat.le_of_ble_eq_true rfl) (Nat.le_of_ble_eq_true rfl)
set_option maxRecDepth 20000 in
theorem x1_L_count {l : Launch} {D : va_G} {dT : Nat → ClassId} {aK aV : Nat → Nat} {a0 : Nat → Nat} {a0_fam : Nat → Nat → Nat} {b2 : Nat} {h_tape : Nat} {h_reader : Nat} {h_friends : Nat} {h_dusk : Nat} {h_coming : Nat} {h_acts : Nat} {h_seen : Nat} {h_pairs : Nat} {h_trials : Nat} {h_imageNow : Nat} {h_imageActs : Nat} {h_imageSeen : Nat} {v0 : Ob} {v0_fam : FS} {u2 : (Nat → Int64)} {p1 : Int32} (hl : l.stackTraces = false) (hf : t_X11_count v0 v0_fam p1 = some 1) : CWi aK aV l yL_count cL_count 4 [((0 : Nat), (9 : Nat), (12 : Nat), (18 : Nat))] ({ frames := 7, cells := 1, slots := 6, locals := 121 } : Room) D dT [.ref (a0 0), .int p1, .ref b2] ([wH dT a0 h_tape h_reader h_friends h_dusk (a0_fam 0 0) h_coming h_acts h_seen h_pairs h_trials h_imageNow h_imageActs h_imageSeen v0, wRw dT v0_fam.1 a0_fam v0_fam.2.2, [(b2, .inl (dT 1, 1, .inr (.inl u2)))]]) (fun _ : Unit => True) (fun _ : Unit => [wH dT a0 h_tape h_reader h_friends h_dusk (a0_fam 0 0) h_coming h_acts h_seen h_pairs h_trials h_imageNow h_imageActs h_imageSeen v0, wRw dT v0_fam.1 a0_fam v0_fam.2.2, [(b2, .inl (dT 1, 1, .inr (.inl u2)))]]) 1 1 6 := by
  refine CWi.of (by decide) (Nat.le_of_ble_eq_true rfl) rfl ?_
  intro p e s m args below meth c A C E htab
  refine wa_aload_n C 2 1 dL_count_0 rfl rfl ?_
  refine wa_iconst (v := 0) C 2 dL_count_1 rfl rfl ?_
  refine wa_aload_n C 0 3 dL_count_2 rfl rfl ?_
  refine wa_iload_n C 1 4 dL_count_3 rfl rfl ?_
  refine wx_catch1 (b1 := 0) (q1 := 0) (ci := 11) (As := [.int p1]) C E htab ({ startPc := 0, endPc := 9, handlerPc := 12, catchType := 18 } : ExceptionTableEntry) [] rfl dL_count_4 kv_L_15 (x_X11_count hl hf) ⟨rfl, rfl⟩ ⟨Nat.le_of_ble_eq_true rfl, Nat.le_of_ble_eq_true rfl⟩ rfl rfl rfl [0, 1] [2] [1, 2, 0] rfl rfl rfl rfl (by decide) rfl rfl rfl rfl ⟨Nat.le_of_ble_eq_true rfl, Nat.le_of_ble_eq_true rfl⟩ (Nat.le_of_ble_eq_true rfl) rfl (by decide) q935 cast1 (fun q9 => ?_)
  refine wa_astore_n (lv' := [(0, .ref (a0 0)), (1, .int p1), (2, .ref b2), (3, .ref q9)]) C [1, 2, 3, 0] 13 dL_count_12 rfl (Nat.le_of_ble_eq_true rfl) rfl ?_
  refine wa_iconst (v := 1) C 14 dL_count_13 rfl rfl ?_
  exact wa_irm C () dL_count_14 trivial rfl rfl (Nat.le_of_ble_eq_true rfl) (Nat.le_of_ble_eq_true rfl)
set_option maxRecDepth 20000 in
theorem x1_L_person {l : Launch} {D : va_G} {dT : Nat → ClassId} {aK aV : Nat → Nat} {a0 : Nat → Nat} {a0_fam : Nat → Nat → Nat} {b3 : Nat} {h_tape : Nat} {h_reader : Nat} {h_friends : Nat} {h_dusk : Nat} {h_coming : Nat} {h_acts : Nat} {h_seen : Nat} {h_pairs : Nat} {h_trials : Nat} {h_imageNow : Nat} {h_imageActs : Nat} {h_imageSeen : Nat} {v0 : Ob} {v0_fam : FS} {u3 : (Nat → Int64)} {p1 : Int32} {p2 : Int32} (hl : l.stackTraces = false) (hf : t_X11_person v0 v0_fam p1 p2 = some 1) : CWi aK aV l yL_person cL_person 5 [((0 : Nat), (10 : Nat), (13 : Nat), (18 : Nat))] ({ frames := 8, cells := 1, slots := 6, locals := 143 } : Room) D dT [.ref (a0 0), .int p1, .int p2, .ref b3] ([wH dT a0 h_tape h_reader h_friends h_dusk (a0_fam 0 0) h_coming h_acts h_seen h_pairs h_trials h_imageNow h_imageActs h_imageSeen v0, wRw dT v0_fam.1 a0_fam v0_fam.2.2, [(b3, .inl (dT 1, 1, .inr (.inl u3)))]]) (fun _ : Unit => True) (fun _ : Unit => [wH dT a0 h_tape h_reader h_friends h_dusk (a0_fam 0 0) h_coming h_acts h_seen h_pairs h_trials h_imageNow h_imageActs h_imageSeen v0, wRw dT v0_fam.1 a0_fam v0_fam.2.2, [(b3, .inl (dT 1, 1, .inr (.inl u3)))]]) 1 1 6 := by
  refine CWi.of (by decide) (Nat.le_of_ble_eq_true rfl) rfl ?_
  intro p e s m args below meth c A C E htab
  refine wa_aload_n C 3 1 dL_person_0 rfl rfl ?_
  refine wa_iconst (v := 0) C 2 dL_person_1 rfl rfl ?_
  refine wa_aload_n C 0 3 dL_person_2 rfl rfl ?_
  refine wa_iload_n C 1 4 dL_person_3 rfl rfl ?_
  refine wa_iload_n C 2 5 dL_person_4 rfl rfl ?_
  refine wx_catch1 (b1 := 0) (q1 := 0) (ci := 11) (As := [.int p1, .int p2]) C E htab ({ startPc := 0, endPc := 10, handlerPc := 13, catchType := 18 } : ExceptionTableEntry) [] rfl dL_person_5 kv_L_20 (x_X11_person hl hf) ⟨rfl, rfl⟩ ⟨Nat.le_of_ble_eq_true rfl, Nat.le_of_ble_eq_true rfl⟩ rfl rfl rfl [0, 1] [2] [1, 2, 0] rfl rfl rfl rfl (by decide) rfl rfl rfl rfl ⟨Nat.le_of_ble_eq_true rfl, Nat.le_of_ble_eq_true rfl⟩ (Nat.le_of_ble_eq_true rfl) rfl (by decide) q935 cast1 (fun q9 => ?_)
  refine wa_astore (lv' := [(0, .ref (a0 0)), (1, .int p1), (2, .int p2), (3, .ref b3), (4, .ref q9)]) C [1, 2, 3, 4, 0] 15 dL_person_13 rfl (Nat.le_of_ble_eq_true rfl) rfl ?_
  refine wa_iconst (v := 1) C 16 dL_person_15 rfl rfl ?_
  exact wa_irm C () dL_person_16 trivial rfl rfl (Nat.le_of_ble_eq_true rfl) (Nat.le_of_ble_eq_true rfl)
set_option maxRecDepth 20000 in
theorem x1_L_house {l : Launch} {D : va_G} {dT : Nat → ClassId} {aK aV : Nat → Nat} {a0 : Nat → Nat} {a0_fam : Nat → Nat → Nat} {b3 : Nat} {h_tape : Nat} {h_reader : Nat} {h_friends : Nat} {h_dusk : Nat} {h_coming : Nat} {h_acts : Nat} {h_seen : Nat} {h_pairs : Nat} {h_trials : Nat} {h_imageNow : Nat} {h_imageActs : Nat} {h_imageSeen : Nat} {v0 : Ob} {v0_fam : FS} {u3 : (Nat → Int64)} {p1 : Int32} {p2 : Int32} (hl : l.stackTraces = false) (hf : t_X11_house v0 v0_fam p1 p2 = some 1) : CWi aK aV l yL_house cL_house 5 [((0 : Nat), (10 : Nat), (13 : Nat), (18 : Nat))] ({ frames := 8, cells := 1, slots := 6, locals := 143 } : Room) D dT [.ref (a0 0), .int p1, .int p2, .ref b3] ([wH dT a0 h_tape h_reader h_friends h_dusk (a0_fam 0 0) h_coming h_acts h_seen h_pairs h_trials h_imageNow h_imageActs h_imageSeen v0, wRw dT v0_fam.1 a0_fam v0_fam.2.2, [(b3, .inl (dT 1, 1, .inr (.inl u3)))]]) (fun _ : Unit => True) (fun _ : Unit => [wH dT a0 h_tape h_reader h_friends h_dusk (a0_fam 0 0) h_coming h_acts h_seen h_pairs h_trials h_imageNow h_imageActs h_imageSeen v0, wRw dT v0_fam.1 a0_fam v0_fam.2.2, [(b3, .inl (dT 1, 1, .inr (.inl u3)))]]) 1 1 6 := by
  refine CWi.of (by decide) (Nat.le_of_ble_eq_true rfl) rfl ?_
  intro p e s m args below meth c A C E htab
  refine wa_aload_n C 3 1 dL_house_0 rfl rfl ?_
  refine wa_iconst (v := 0) C 2 dL_house_1 rfl rfl ?_
  refine wa_aload_n C 0 3 dL_house_2 rfl rfl ?_
  refine wa_iload_n C 1 4 dL_house_3 rfl rfl ?_
  refine wa_iload_n C 2 5 dL_house_4 rfl rfl ?_
  refine wx_catch1 (b1 := 0) (q1 := 0) (ci := 11) (As := [.int p1, .int p2]) C E htab ({ startPc := 0, endPc := 10, handlerPc := 13, catchType := 18 } : ExceptionTableEntry) [] rfl dL_house_5 kv_L_24 (x_X11_house hl hf) ⟨rfl, rfl⟩ ⟨Nat.le_of_ble_eq_true rfl, Nat.le_of_ble_eq_true rfl⟩ rfl rfl rfl [0, 1] [2] [1, 2, 0] rfl rfl rfl rfl (by decide) rfl rfl rfl rfl ⟨Nat.le_of_ble_eq_true rfl, Nat.le_of_ble_eq_true rfl⟩ (Nat.le_of_ble_eq_true rfl) rfl (by decide) q935 cast1 (fun q9 => ?_)
  refine wa_astore (lv' := [(0, .ref (a0 0)), (1, .int p1), (2, .int p2), (3, .ref b3), (4, .ref q9)]) C [1, 2, 3, 4, 0] 15 dL_house_13 rfl (Nat.le_of_ble_eq_true rfl) rfl ?_
  refine wa_iconst (v := 1) C 16 dL_house_15 rfl rfl ?_
  exact wa_irm C () dL_house_16 trivial rfl rfl (Nat.le_of_ble_eq_true rfl) (Nat.le_of_ble_eq_true rfl)
set_option maxRecDepth 20000 in
theorem x1_L_move {l : Launch} {D : va_G} {dT : Nat → ClassId} {aK aV : Nat → Nat} {a0 : Nat → Nat} {a0_fam : Nat → Nat → Nat} {b3 : Nat} {h_tape : Nat} {h_reader : Nat} {h_friends : Nat} {h_dusk : Nat} {h_coming : Nat} {h_acts : Nat} {h_seen : Nat} {h_pairs : Nat} {h_trials : Nat} {h_imageNow : Nat} {h_imageActs : Nat} {h_imageSeen : Nat} {v0 : Ob} {v0_fam : FS} {u3 : (Nat → Int64)} {p1 : Int32} {p2 : Int32} (hl : l.stackTraces = false) (hf : t_X11_move v0 v0_fam p1 p2 = some 1) : CWi aK aV l yL_move cL_move 5 [((0 : Nat), (10 : Nat), (13 : Nat), (18 : Nat))] ({ frames := 8, cells := 1, slots := 6, locals := 144 } : Room) D dT [.ref (a0 0), .int p1, .int p2, .ref b3] ([wH dT a0 h_tape h_reader h_friends h_dusk (a0_fam 0 0) h_coming h_acts h_seen h_pairs h_trials h_imageNow h_imageActs h_imageSeen v0, wRw dT v0_fam.1 a0_fam v0_fam.2.2, [(b3, .inl (dT 1, 1, .inr (.inl u3)))]]) (fun _ : Unit => True) (fun _ : Unit => [wH dT a0 h_tape h_reader h_friends h_dusk (a0_fam 0 0) h_coming h_acts h_seen h_pairs h_trials h_imageNow h_imageActs h_imageSeen v0, wRw dT v0_fam.1 a0_fam v0_fam.2.2, [(b3, .inl (dT 1, 1, .inr (.inl u3)))]]) 1 1 6 := by
  refine CWi.of (by decide) (Nat.le_of_ble_eq_true rfl) rfl ?_
  intro p e s m args below meth c A C E htab
  refine wa_aload_n C 3 1 dL_move_0 rfl rfl ?_
  refine wa_iconst (v := 0) C 2 dL_move_1 rfl rfl ?_
  refine wa_aload_n C 0 3 dL_move_2 rfl rfl ?_
  refine wa_iload_n C 1 4 dL_move_3 rfl rfl ?_
  refine wa_iload_n C 2 5 dL_move_4 rfl rfl ?_
  refine wx_catch1 (b1 := 0) (q1 := 0) (ci := 11) (As := [.int p1, .int p2]) C E htab ({ startPc := 0, endPc := 10, handlerPc := 13, catchType := 18 } : ExceptionTableEntry) [] rfl dL_move_5 kv_L_27 (x_X11_move hl hf) ⟨rfl, rfl⟩ ⟨Nat.le_of_ble_eq_true rfl, Nat.le_of_ble_eq_true rfl⟩ rfl rfl rfl [0, 1] [2] [1, 2, 0] rfl rfl rfl rfl (by decide) rfl rfl rfl rfl ⟨Nat.le_of_ble_eq_true rfl, Nat.le_of_ble_eq_true rfl⟩ (Nat.le_of_ble_eq_true rfl) rfl (by decide) q935 cast1 (fun q9 => ?_)
  refine wa_astore (lv' := [(0, .ref (a0 0)), (1, .int p1), (2, .int p2), (3, .ref b3), (4, .ref q9)]) C [1, 2, 3, 4, 0] 15 dL_move_13 rfl (Nat.le_of_ble_eq_true rfl) rfl ?_
  refine wa_iconst (v := 1) C 16 dL_move_15 rfl rfl ?_
  exact wa_irm C () dL_move_16 trivial rfl rfl (Nat.le_of_ble_eq_true rfl) (Nat.le_of_ble_eq_true rfl)
set_option maxRecDepth 20000 in
theorem x1_L_found {l : Launch} {D : va_G} {dT : Nat → ClassId} {aK aV : Nat → Nat} {a0 : Nat → Nat} {a0_fam : Nat → Nat → Nat} {b2 : Nat} {h_tape : Nat} {h_reader : Nat} {h_friends : Nat} {h_dusk : Nat} {h_coming : Nat} {h_acts : Nat} {h_seen : Nat} {h_pairs : Nat} {h_trials : Nat} {h_imageNow : Nat} {h_imageActs : Nat} {h_imageSeen : Nat} {v0 : Ob} {v0_fam : FS} {u2 : (Nat → Int64)} {p1 : Int32} (hl : l.stackTraces = false) (hf : t_X11_found v0 v0_fam p1 = some 1) : CWi aK aV l yL_found cL_found 4 [((0 : Nat), (9 : Nat), (12 : Nat), (18 : Nat))] ({ frames := 8, cells := 1, slots := 6, locals := 142 } : Room) D dT [.ref (a0 0), .int p1, .ref b2] ([wH dT a0 h_tape h_reader h_friends h_dusk (a0_fam 0 0) h_coming h_acts h_seen h_pairs h_trials h_imageNow h_imageActs h_imageSeen v0, wRw dT v0_fam.1 a0_fam v0_fam.2.2, [(b2, .inl (dT 1, 1, .inr (.inl u2)))]]) (fun _ : Unit => True) (fun _ : Unit => [wH dT a0 h_tape h_reader h_friends h_dusk (a0_fam 0 0) h_coming h_acts h_seen h_pairs h_trials h_imageNow h_imageActs h_imageSeen v0, wRw dT v0_fam.1 a0_fam v0_fam.2.2, [(b2, .inl (dT 1, 1, .inr (.inl u2)))]]) 1 1 6 := by
  refine CWi.of (by decide) (Nat.le_of_ble_eq_true rfl) rfl ?_
  intro p e s m args below meth c A C E htab
  refine wa_aload_n C 2 1 dL_found_0 rfl rfl ?_
  refine wa_iconst (v := 0) C 2 dL_found_1 rfl rfl ?_
  refine wa_aload_n C 0 3 dL_found_2 rfl rfl ?_
  refine wa_iload_n C 1 4 dL_found_3 rfl rfl ?_
  refine wx_catch1 (b1 := 0) (q1 := 0) (ci := 11) (As := [.int p1]) C E htab ({ startPc := 0, endPc := 9, handlerPc := 12, catchType := 18 } : ExceptionTableEntry) [] rfl dL_found_4 kv_L_30 (x_X11_found hl hf) ⟨rfl, rfl⟩ ⟨Nat.le_of_ble_eq_true rfl, Nat.le_of_ble_eq_true rfl⟩ rfl rfl rfl [0, 1] [2] [1, 2, 0] rfl rfl rfl rfl (by decide) rfl rfl rfl rfl ⟨Nat.le_of_ble_eq_true rfl, Nat.le_of_ble_eq_true rfl⟩ (Nat.le_of_ble_eq_true rfl) rfl (by decide) q935 cast1 (fun q9 => ?_)
  refine wa_astore_n (lv' := [(0, .ref (a0 0)), (1, .int p1), (2, .ref b2), (3, .ref q9)]) C [1, 2, 3, 0] 13 dL_found_12 rfl (Nat.le_of_ble_eq_true rfl) rfl ?_
  refine wa_iconst (v := 1) C 14 dL_found_13 rfl rfl ?_
  exact wa_irm C () dL_found_14 trivial rfl rfl (Nat.le_of_ble_eq_true rfl) (Nat.le_of_ble_eq_true rfl)
set_option maxRecDepth 20000 in
theorem x1_L_join {l : Launch} {D : va_G} {dT : Nat → ClassId} {aK aV : Nat → Nat} {a0 : Nat → Nat} {a0_fam : Nat → Nat → Nat} {b3 : Nat} {h_tape : Nat} {h_reader : Nat} {h_friends : Nat} {h_dusk : Nat} {h_coming : Nat} {h_acts : Nat} {h_seen : Nat} {h_pairs : Nat} {h_trials : Nat} {h_imageNow : Nat} {h_imageActs : Nat} {h_imageSeen : Nat} {v0 : Ob} {v0_fam : FS} {u3 : (Nat → Int64)} {p1 : Int32} {p2 : Int32} (hl : l.stackTraces = false) (hf : t_X11_join v0 v0_fam p1 p2 = some 1) : CWi aK aV l yL_join cL_join 5 [((0 : Nat), (10 : Nat), (13 : Nat), (18 : Nat))] ({ frames := 8, cells := 1, slots := 6, locals := 144 } : Room) D dT [.ref (a0 0), .int p1, .int p2, .ref b3] ([wH dT a0 h_tape h_reader h_friends h_dusk (a0_fam 0 0) h_coming h_acts h_seen h_pairs h_trials h_imageNow h_imageActs h_imageSeen v0, wRw dT v0_fam.1 a0_fam v0_fam.2.2, [(b3, .inl (dT 1, 1, .inr (.inl u3)))]]) (fun _ : Unit => True) (fun _ : Unit => [wH dT a0 h_tape h_reader h_friends h_dusk (a0_fam 0 0) h_coming h_acts h_seen h_pairs h_trials h_imageNow h_imageActs h_imageSeen v0, wRw dT v0_fam.1 a0_fam v0_fam.2.2, [(b3, .inl (dT 1, 1, .inr (.inl u3)))]]) 1 1 6 := by
  refine CWi.of (by decide) (Nat.le_of_ble_eq_true rfl) rfl ?_
  intro p e s m args below meth c A C E htab
  refine wa_aload_n C 3 1 dL_join_0 rfl rfl ?_
  refine wa_iconst (v := 0) C 2 dL_join_1 rfl rfl ?_
  refine wa_aload_n C 0 3 dL_join_2 rfl rfl ?_
  refine wa_iload_n C 1 4 dL_join_3 rfl rfl ?_
  refine wa_iload_n C 2 5 dL_join_4 rfl rfl ?_
  refine wx_catch1 (b1 := 0) (q1 := 0) (ci := 11) (As := [.int p1, .int p2]) C E htab ({ startPc := 0, endPc := 10, handlerPc := 13, catchType := 18 } : ExceptionTableEntry) [] rfl dL_join_5 kv_L_33 (x_X11_join hl hf) ⟨rfl, rfl⟩ ⟨Nat.le_of_ble_eq_true rfl, Nat.le_of_ble_eq_true rfl⟩ rfl rfl rfl [0, 1] [2] [1, 2, 0] rfl rfl rfl rfl (by decide) rfl rfl rfl rfl ⟨Nat.le_of_ble_eq_true rfl, Nat.le_of_ble_eq_true rfl⟩ (Nat.le_of_ble_eq_true rfl) rfl (by decide) q935 cast1 (fun q9 => ?_)
  refine wa_astore (lv' := [(0, .ref (a0 0)), (1, .int p1), (2, .int p2), (3, .ref b3), (4, .ref q9)]) C [1, 2, 3, 4, 0] 15 dL_join_13 rfl (Nat.le_of_ble_eq_true rfl) rfl ?_
  refine wa_iconst (v := 1) C 16 dL_join_15 rfl rfl ?_
  exact wa_irm C () dL_join_16 trivial rfl rfl (Nat.le_of_ble_eq_true rfl) (Nat.le_of_ble_eq_true rfl)
set_option maxRecDepth 20000 in
theorem x1_L_rank {l : Launch} {D : va_G} {dT : Nat → ClassId} {aK aV : Nat → Nat} {a0 : Nat → Nat} {a0_fam : Nat → Nat → Nat} {b3 : Nat} {h_tape : Nat} {h_reader : Nat} {h_friends : Nat} {h_dusk : Nat} {h_coming : Nat} {h_acts : Nat} {h_seen : Nat} {h_pairs : Nat} {h_trials : Nat} {h_imageNow : Nat} {h_imageActs : Nat} {h_imageSeen : Nat} {v0 : Ob} {v0_fam : FS} {u3 : (Nat → Int64)} {p1 : Int32} {p2 : Int32} (hl : l.stackTraces = false) (hf : t_X11_rank v0 v0_fam p1 p2 = some 1) : CWi aK aV l yL_rank cL_rank 5 [((0 : Nat), (10 : Nat), (13 : Nat), (18 : Nat))] ({ frames := 8, cells := 1, slots := 6, locals := 144 } : Room) D dT [.ref (a0 0), .int p1, .int p2, .ref b3] ([wH dT a0 h_tape h_reader h_friends h_dusk (a0_fam 0 0) h_coming h_acts h_seen h_pairs h_trials h_imageNow h_imageActs h_imageSeen v0, wRw dT v0_fam.1 a0_fam v0_fam.2.2, [(b3, .inl (dT 1, 1, .inr (.inl u3)))]]) (fun _ : Unit => True) (fun _ : Unit => [wH dT a0 h_tape h_reader h_friends h_dusk (a0_fam 0 0) h_coming h_acts h_seen h_pairs h_trials h_imageNow h_imageActs h_imageSeen v0, wRw dT v0_fam.1 a0_fam v0_fam.2.2, [(b3, .inl (dT 1, 1, .inr (.inl u3)))]]) 1 1 6 := by
  refine CWi.of (by decide) (Nat.le_of_ble_eq_true rfl) rfl ?_
  intro p e s m args below meth c A C E htab
  refine wa_aload_n C 3 1 dL_rank_0 rfl rfl ?_
  refine wa_iconst (v := 0) C 2 dL_rank_1 rfl rfl ?_
  refine wa_aload_n C 0 3 dL_rank_2 rfl rfl ?_
  refine wa_iload_n C 1 4 dL_rank_3 rfl rfl ?_
  refine wa_iload_n C 2 5 dL_rank_4 rfl rfl ?_
  refine wx_catch1 (b1 := 0) (q1 := 0) (ci := 11) (As := [.int p1, .int p2]) C E htab ({ startPc := 0, endPc := 10, handlerPc := 13, catchType := 18 } : ExceptionTableEntry) [] rfl dL_rank_5 kv_L_36 (x_X11_rank hl hf) ⟨rfl, rfl⟩ ⟨Nat.le_of_ble_eq_true rfl, Nat.le_of_ble_eq_true rfl⟩ rfl rfl rfl [0, 1] [2] [1, 2, 0] rfl rfl rfl rfl (by decide) rfl rfl rfl rfl ⟨Nat.le_of_ble_eq_true rfl, Nat.le_of_ble_eq_true rfl⟩ (Nat.le_of_ble_eq_true rfl) rfl (by decide) q935 cast1 (fun q9 => ?_)
  refine wa_astore (lv' := [(0, .ref (a0 0)), (1, .int p1), (2, .int p2), (3, .ref b3), (4, .ref q9)]) C [1, 2, 3, 4, 0] 15 dL_rank_13 rfl (Nat.le_of_ble_eq_true rfl) rfl ?_
  refine wa_iconst (v := 1) C 16 dL_rank_15 rfl rfl ?_
  exact wa_irm C () dL_rank_16 trivial rfl rfl (Nat.le_of_ble_eq_true rfl) (Nat.le_of_ble_eq_true rfl)
set_option maxRecDepth 20000 in
theorem x1_L_then {l : Launch} {D : va_G} {dT : Nat → ClassId} {aK aV : Nat → Nat} {a0 : Nat → Nat} {a0_fam : Nat → Nat → Nat} {b4 : Nat} {h_tape : Nat} {h_reader : Nat} {h_friends : Nat} {h_dusk : Nat} {h_coming : Nat} {h_acts : Nat} {h_seen : Nat} {h_pairs : Nat} {h_trials : Nat} {h_imageNow : Nat} {h_imageActs : Nat} {h_imageSeen : Nat} {v0 : Ob} {v0_fam : FS} {u4 : (Nat → Int64)} {p1 : Int32} {p2 : Int32} {p3 : Int32} (hl : l.stackTraces = false) (hf : t_X11_then v0 v0_fam p1 p2 p3 = some 1) : CWi aK aV l yL_then cL_then 6 [((0 : Nat), (12 : Nat), (15 : Nat), (18 : Nat)), ((0 : Nat), (12 : Nat), (19 : Nat), (13 : Nat))] ({ frames := 8, cells := 1, slots := 6, locals := 147 } : Room) D dT [.ref (a0 0), .int p1, .int p2, .int p3, .ref b4] ([wH dT a0 h_tape h_reader h_friends h_dusk (a0_fam 0 0) h_coming h_acts h_seen h_pairs h_trials h_imageNow h_imageActs h_imageSeen v0, wRw dT v0_fam.1 a0_fam v0_fam.2.2, [(b4, .inl (dT 1, 1, .inr (.inl u4)))]]) (fun _ : Unit => True) (fun _ : Unit => [wH dT a0 h_tape h_reader h_friends h_dusk (a0_fam 0 0) h_coming h_acts h_seen h_pairs h_trials h_imageNow h_imageActs h_imageSeen v0, wRw dT v0_fam.1 a0_fam v0_fam.2.2, [(b4, .inl (dT 1, 1, .inr (.inl u4)))]]) 1 1 6 := by
  refine CWi.of (by decide) (Nat.le_of_ble_eq_true rfl) rfl ?_
  intro p e s m args below meth c A C E htab
  refine wa_aload C 4 2 dL_then_0 rfl rfl ?_
  refine wa_iconst (v := 0) C 3 dL_then_2 rfl rfl ?_
  refine wa_aload_n C 0 4 dL_then_3 rfl rfl ?_
  refine wa_iload_n C 1 5 dL_then_4 rfl rfl ?_
  refine wa_iload_n C 2 6 dL_then_5 rfl rfl ?_
  refine wa_iload_n C 3 7 dL_then_6 rfl rfl ?_
  refine wx_catch1 (b1 := 0) (q1 := 0) (ci := 11) (As := [.int p1, .int p2, .int p3]) C E htab ({ startPc := 0, endPc := 12, handlerPc := 15, catchType := 18 } : ExceptionTableEntry) [({ startPc := 0, endPc := 12, handlerPc := 19, catchType := 13 } : ExceptionTableEntry)] rfl dL_then_7 kv_L_39 (x_X11_then hl hf) ⟨rfl, rfl⟩ ⟨Nat.le_of_ble_eq_true rfl, Nat.le_of_ble_eq_true rfl⟩ rfl rfl rfl [0, 1] [2] [1, 2, 0] rfl rfl rfl rfl (by decide) rfl rfl rfl rfl ⟨Nat.le_of_ble_eq_true rfl, Nat.le_of_ble_eq_true rfl⟩ (Nat.le_of_ble_eq_true rfl) rfl (by decide) q935 cast1 (fun q9 => ?_)
  refine wa_astore (lv' := [(0, .ref (a0 0)), (1, .int p1), (2, .int p2), (3, .int p3), (4, .ref b4), (5, .ref q9)]) C [1, 2, 3, 4, 5, 0] 17 dL_then_15 rfl (Nat.le_of_ble_eq_true rfl) rfl ?_
  refine wa_iconst (v := 1) C 18 dL_then_17 rfl rfl ?_
  exact wa_irm C () dL_then_18 trivial rfl rfl (Nat.le_of_ble_eq_true rfl) (Nat.le_of_ble_eq_true rfl)
set_option maxRecDepth 20000 in
theorem x2_L_then {l : Launch} {D : va_G} {dT : Nat → ClassId} {aK aV : Nat → Nat} {a0 : Nat → Nat} {a0_fam : Nat → Nat → Nat} {b4 : Nat} {h_tape : Nat} {h_reader : Nat} {h_friends : Nat} {h_dusk : Nat} {h_coming : Nat} {h_acts : Nat} {h_seen : Nat} {h_pairs : Nat} {h_trials : Nat} {h_imageNow : Nat} {h_imageActs : Nat} {h_imageSeen : Nat} {v0 : Ob} {v0_fam : FS} {u4 : (Nat → Int64)} {p1 : Int32} {p2 : Int32} {p3 : Int32} (hl : l.stackTraces = false) (hf : t_X11_then v0 v0_fam p1 p2 p3 = some 2) : CWi aK aV l yL_then cL_then 6 [((0 : Nat), (12 : Nat), (15 : Nat), (18 : Nat)), ((0 : Nat), (12 : Nat), (19 : Nat), (13 : Nat))] ({ frames := 8, cells := 1, slots := 6, locals := 147 } : Room) D dT [.ref (a0 0), .int p1, .int p2, .int p3, .ref b4] ([wH dT a0 h_tape h_reader h_friends h_dusk (a0_fam 0 0) h_coming h_acts h_seen h_pairs h_trials h_imageNow h_imageActs h_imageSeen v0, wRw dT v0_fam.1 a0_fam v0_fam.2.2, [(b4, .inl (dT 1, 1, .inr (.inl u4)))]]) (fun _ : Unit => True) (fun _ : Unit => [wH dT a0 h_tape h_reader h_friends h_dusk (a0_fam 0 0) h_coming h_acts h_seen h_pairs h_trials h_imageNow h_imageActs h_imageSeen v0, wRw dT v0_fam.1 a0_fam v0_fam.2.2, [(b4, .inl (dT 1, 1, .inr (.inl u4)))]]) 2 1 6 := by
  refine CWi.of (by decide) (Nat.le_of_ble_eq_true rfl) rfl ?_
  intro p e s m args below meth c A C E htab
  refine wa_aload C 4 2 dL_then_0 rfl rfl ?_
  refine wa_iconst (v := 0) C 3 dL_then_2 rfl rfl ?_
  refine wa_aload_n C 0 4 dL_then_3 rfl rfl ?_
  refine wa_iload_n C 1 5 dL_then_4 rfl rfl ?_
  refine wa_iload_n C 2 6 dL_then_5 rfl rfl ?_
  refine wa_iload_n C 3 7 dL_then_6 rfl rfl ?_
  refine wx_catch2 (b1 := 0) (q1 := 0) (ci := 11) (As := [.int p1, .int p2, .int p3]) C E htab ({ startPc := 0, endPc := 12, handlerPc := 15, catchType := 18 } : ExceptionTableEntry) ({ startPc := 0, endPc := 12, handlerPc := 19, catchType := 13 } : ExceptionTableEntry) [] rfl dL_then_7 kv_L_39 (x_X11_then hl hf) ⟨rfl, rfl⟩ ⟨Nat.le_of_ble_eq_true rfl, Nat.le_of_ble_eq_true rfl⟩ rfl rfl rfl [0, 1] [2] [1, 2, 0] rfl rfl rfl rfl (by decide) rfl rfl rfl rfl ⟨Nat.le_of_ble_eq_true rfl, Nat.le_of_ble_eq_true rfl⟩ (Nat.le_of_ble_eq_true rfl) (by decide) q935 rfl (by decide) q614 cast2 (fun q9 => ?_)
  refine wa_astore (lv' := [(0, .ref (a0 0)), (1, .int p1), (2, .int p2), (3, .int p3), (4, .ref b4), (5, .ref q9)]) C [1, 2, 3, 4, 5, 0] 21 dL_then_19 rfl (Nat.le_of_ble_eq_true rfl) rfl ?_
  refine wa_iconst (v := 2) C 22 dL_then_21 rfl rfl ?_
  exact wa_irm C () dL_then_22 trivial rfl rfl (Nat.le_of_ble_eq_true rfl) (Nat.le_of_ble_eq_true rfl)
set_option maxRecDepth 20000 in
theorem x2_L_size {l : Launch} {D : va_G} {dT : Nat → ClassId} {aK aV : Nat → Nat} {a0 : Nat → Nat} {a0_fam : Nat → Nat → Nat} {b3 : Nat} {h_tape : Nat} {h_reader : Nat} {h_friends : Nat} {h_dusk : Nat} {h_coming : Nat} {h_acts : Nat} {h_seen : Nat} {h_pairs : Nat} {h_trials : Nat} {h_imageNow : Nat} {h_imageActs : Nat} {h_imageSeen : Nat} {v0 : Ob} {v0_fam : FS} {u3 : (Nat → Int64)} {p1 : Int32} {p2 : Int32} (hl : l.stackTraces = false) (hf : t_X11_size v0 v0_fam p1 p2 = some 2) : CWi aK aV l yL_size cL_size 5 [((0 : Nat), (10 : Nat), (13 : Nat), (13 : Nat))] ({ frames := 8, cells := 1, slots := 6, locals := 144 } : Room) D dT [.ref (a0 0), .int p1, .int p2, .ref b3] ([wH dT a0 h_tape h_reader h_friends h_dusk (a0_fam 0 0) h_coming h_acts h_seen h_pairs h_trials h_imageNow h_imageActs h_imageSeen v0, wRw dT v0_fam.1 a0_fam v0_fam.2.2, [(b3, .inl (dT 1, 1, .inr (.inl u3)))]]) (fun _ : Unit => True) (fun _ : Unit => [wH dT a0 h_tape h_reader h_friends h_dusk (a0_fam 0 0) h_coming h_acts h_seen h_pairs h_trials h_imageNow h_imageActs h_imageSeen v0, wRw dT v0_fam.1 a0_fam v0_fam.2.2, [(b3, .inl (dT 1, 1, .inr (.inl u3)))]]) 1 1 6 := by
  refine CWi.of (by decide) (Nat.le_of_ble_eq_true rfl) rfl ?_
  intro p e s m args below meth c A C E htab
  refine wa_aload_n C 3 1 dL_size_0 rfl rfl ?_
  refine wa_iconst (v := 0) C 2 dL_size_1 rfl rfl ?_
  refine wa_aload_n C 0 3 dL_size_2 rfl rfl ?_
  refine wa_iload_n C 1 4 dL_size_3 rfl rfl ?_
  refine wa_iload_n C 2 5 dL_size_4 rfl rfl ?_
  refine wx_catch1 (b1 := 0) (q1 := 0) (ci := 11) (As := [.int p1, .int p2]) C E htab ({ startPc := 0, endPc := 10, handlerPc := 13, catchType := 13 } : ExceptionTableEntry) [] rfl dL_size_5 kv_L_43 (x_X11_size hl hf) ⟨rfl, rfl⟩ ⟨Nat.le_of_ble_eq_true rfl, Nat.le_of_ble_eq_true rfl⟩ rfl rfl rfl [0, 1] [2] [1, 2, 0] rfl rfl rfl rfl (by decide) rfl rfl rfl rfl ⟨Nat.le_of_ble_eq_true rfl, Nat.le_of_ble_eq_true rfl⟩ (Nat.le_of_ble_eq_true rfl) rfl (by decide) q614 cast2 (fun q9 => ?_)
  refine wa_astore (lv' := [(0, .ref (a0 0)), (1, .int p1), (2, .int p2), (3, .ref b3), (4, .ref q9)]) C [1, 2, 3, 4, 0] 15 dL_size_13 rfl (Nat.le_of_ble_eq_true rfl) rfl ?_
  refine wa_iconst (v := 1) C 16 dL_size_15 rfl rfl ?_
  exact wa_irm C () dL_size_16 trivial rfl rfl (Nat.le_of_ble_eq_true rfl) (Nat.le_of_ble_eq_true rfl)
set_option maxRecDepth 20000 in
theorem x1_L_later {l : Launch} {D : va_G} {dT : Nat → ClassId} {aK aV : Nat → Nat} {a0 : Nat → Nat} {a0_fam : Nat → Nat → Nat} {b3 : Nat} {h_tape : Nat} {h_reader : Nat} {h_friends : Nat} {h_dusk : Nat} {h_coming : Nat} {h_acts : Nat} {h_seen : Nat} {h_pairs : Nat} {h_trials : Nat} {h_imageNow : Nat} {h_imageActs : Nat} {h_imageSeen : Nat} {v0 : Ob} {v0_fam : FS} {u3 : (Nat → Int64)} {p1 : Int32} {p2 : Int32} (hl : l.stackTraces = false) (hf : t_X11_later v0 v0_fam p1 p2 = some 1) : CWi aK aV l yL_later cL_later 5 [((0 : Nat), (10 : Nat), (13 : Nat), (18 : Nat)), ((0 : Nat), (10 : Nat), (17 : Nat), (13 : Nat))] ({ frames := 8, cells := 1, slots := 6, locals := 145 } : Room) D dT [.ref (a0 0), .int p1, .int p2, .ref b3] ([wH dT a0 h_tape h_reader h_friends h_dusk (a0_fam 0 0) h_coming h_acts h_seen h_pairs h_trials h_imageNow h_imageActs h_imageSeen v0, wRw dT v0_fam.1 a0_fam v0_fam.2.2, [(b3, .inl (dT 1, 1, .inr (.inl u3)))]]) (fun _ : Unit => True) (fun _ : Unit => [wH dT a0 h_tape h_reader h_friends h_dusk (a0_fam 0 0) h_coming h_acts h_seen h_pairs h_trials h_imageNow h_imageActs h_imageSeen v0, wRw dT v0_fam.1 a0_fam v0_fam.2.2, [(b3, .inl (dT 1, 1, .inr (.inl u3)))]]) 1 1 6 := by
  refine CWi.of (by decide) (Nat.le_of_ble_eq_true rfl) rfl ?_
  intro p e s m args below meth c A C E htab
  refine wa_aload_n C 3 1 dL_later_0 rfl rfl ?_
  refine wa_iconst (v := 0) C 2 dL_later_1 rfl rfl ?_
  refine wa_aload_n C 0 3 dL_later_2 rfl rfl ?_
  refine wa_iload_n C 1 4 dL_later_3 rfl rfl ?_
  refine wa_iload_n C 2 5 dL_later_4 rfl rfl ?_
  refine wx_catch1 (b1 := 0) (q1 := 0) (ci := 11) (As := [.int p1, .int p2]) C E htab ({ startPc := 0, endPc := 10, handlerPc := 13, catchType := 18 } : ExceptionTableEntry) [({ startPc := 0, endPc := 10, handlerPc := 17, catchType := 13 } : ExceptionTableEntry)] rfl dL_later_5 kv_L_46 (x_X11_later hl hf) ⟨rfl, rfl⟩ ⟨Nat.le_of_ble_eq_true rfl, Nat.le_of_ble_eq_true rfl⟩ rfl rfl rfl [0, 1] [2] [1, 2, 0] rfl rfl rfl rfl (by decide) rfl rfl rfl rfl ⟨Nat.le_of_ble_eq_true rfl, Nat.le_of_ble_eq_true rfl⟩ (Nat.le_of_ble_eq_true rfl) rfl (by decide) q935 cast1 (fun q9 => ?_)
  refine wa_astore (lv' := [(0, .ref (a0 0)), (1, .int p1), (2, .int p2), (3, .ref b3), (4, .ref q9)]) C [1, 2, 3, 4, 0] 15 dL_later_13 rfl (Nat.le_of_ble_eq_true rfl) rfl ?_
  refine wa_iconst (v := 1) C 16 dL_later_15 rfl rfl ?_
  exact wa_irm C () dL_later_16 trivial rfl rfl (Nat.le_of_ble_eq_true rfl) (Nat.le_of_ble_eq_true rfl)
set_option maxRecDepth 20000 in
theorem x2_L_later {l : Launch} {D : va_G} {dT : Nat → ClassId} {aK aV : Nat → Nat} {a0 : Nat → Nat} {a0_fam : Nat → Nat → Nat} {b3 : Nat} {h_tape : Nat} {h_reader : Nat} {h_friends : Nat} {h_dusk : Nat} {h_coming : Nat} {h_acts : Nat} {h_seen : Nat} {h_pairs : Nat} {h_trials : Nat} {h_imageNow : Nat} {h_imageActs : Nat} {h_imageSeen : Nat} {v0 : Ob} {v0_fam : FS} {u3 : (Nat → Int64)} {p1 : Int32} {p2 : Int32} (hl : l.stackTraces = false) (hf : t_X11_later v0 v0_fam p1 p2 = some 2) : CWi aK aV l yL_later cL_later 5 [((0 : Nat), (10 : Nat), (13 : Nat), (18 : Nat)), ((0 : Nat), (10 : Nat), (17 : Nat), (13 : Nat))] ({ frames := 8, cells := 1, slots := 6, locals := 145 } : Room) D dT [.ref (a0 0), .int p1, .int p2, .ref b3] ([wH dT a0 h_tape h_reader h_friends h_dusk (a0_fam 0 0) h_coming h_acts h_seen h_pairs h_trials h_imageNow h_imageActs h_imageSeen v0, wRw dT v0_fam.1 a0_fam v0_fam.2.2, [(b3, .inl (dT 1, 1, .inr (.inl u3)))]]) (fun _ : Unit => True) (fun _ : Unit => [wH dT a0 h_tape h_reader h_friends h_dusk (a0_fam 0 0) h_coming h_acts h_seen h_pairs h_trials h_imageNow h_imageActs h_imageSeen v0, wRw dT v0_fam.1 a0_fam v0_fam.2.2, [(b3, .inl (dT 1, 1, .inr (.inl u3)))]]) 2 1 6 := by
  refine CWi.of (by decide) (Nat.le_of_ble_eq_true rfl) rfl ?_
  intro p e s m args below meth c A C E htab
  refine wa_aload_n C 3 1 dL_later_0 rfl rfl ?_
  refine wa_iconst (v := 0) C 2 dL_later_1 rfl rfl ?_
  refine wa_aload_n C 0 3 dL_later_2 rfl rfl ?_
  refine wa_iload_n C 1 4 dL_later_3 rfl rfl ?_
  refine wa_iload_n C 2 5 dL_later_4 rfl rfl ?_
  refine wx_catch2 (b1 := 0) (q1 := 0) (ci := 11) (As := [.int p1, .int p2]) C E htab ({ startPc := 0, endPc := 10, handlerPc := 13, catchType := 18 } : ExceptionTableEntry) ({ startPc := 0, endPc := 10, handlerPc := 17, catchType := 13 } : ExceptionTableEntry) [] rfl dL_later_5 kv_L_46 (x_X11_later hl hf) ⟨rfl, rfl⟩ ⟨Nat.le_of_ble_eq_true rfl, Nat.le_of_ble_eq_true rfl⟩ rfl rfl rfl [0, 1] [2] [1, 2, 0] rfl rfl rfl rfl (by decide) rfl rfl rfl rfl ⟨Nat.le_of_ble_eq_true rfl, Nat.le_of_ble_eq_true rfl⟩ (Nat.le_of_ble_eq_true rfl) (by decide) q935 rfl (by decide) q614 cast2 (fun q9 => ?_)
  refine wa_astore (lv' := [(0, .ref (a0 0)), (1, .int p1), (2, .int p2), (3, .ref b3), (4, .ref q9)]) C [1, 2, 3, 4, 0] 19 dL_later_17 rfl (Nat.le_of_ble_eq_true rfl) rfl ?_
  refine wa_iconst (v := 2) C 20 dL_later_19 rfl rfl ?_
  exact wa_irm C () dL_later_20 trivial rfl rfl (Nat.le_of_ble_eq_true rfl) (Nat.le_of_ble_eq_true rfl)
set_option maxRecDepth 20000 in
theorem x1_L_meet {l : Launch} {D : va_G} {dT : Nat → ClassId} {aK aV : Nat → Nat} {a0 : Nat → Nat} {a0_fam : Nat → Nat → Nat} {b4 : Nat} {h_tape : Nat} {h_reader : Nat} {h_friends : Nat} {h_dusk : Nat} {h_coming : Nat} {h_acts : Nat} {h_seen : Nat} {h_pairs : Nat} {h_trials : Nat} {h_imageNow : Nat} {h_imageActs : Nat} {h_imageSeen : Nat} {v0 : Ob} {v0_fam : FS} {u4 : (Nat → Int64)} {p1 : Int32} {p2 : Int32} {p3 : Int32} (hl : l.stackTraces = false) (hf : t_X11_meet v0 v0_fam p1 p2 p3 = some 1) : CWi aK aV l yL_meet cL_meet 6 [((0 : Nat), (12 : Nat), (15 : Nat), (18 : Nat))] ({ frames := 8, cells := 1, slots := 6, locals := 144 } : Room) D dT [.ref (a0 0), .int p1, .int p2, .int p3, .ref b4] ([wH dT a0 h_tape h_reader h_friends h_dusk (a0_fam 0 0) h_coming h_acts h_seen h_pairs h_trials h_imageNow h_imageActs h_imageSeen v0, wRw dT v0_fam.1 a0_fam v0_fam.2.2, [(b4, .inl (dT 1, 1, .inr (.inl u4)))]]) (fun _ : Unit => True) (fun _ : Unit => [wH dT a0 h_tape h_reader h_friends h_dusk (a0_fam 0 0) h_coming h_acts h_seen h_pairs h_trials h_imageNow h_imageActs h_imageSeen v0, wRw dT v0_fam.1 a0_fam v0_fam.2.2, [(b4, .inl (dT 1, 1, .inr (.inl u4)))]]) 1 1 6 := by
  refine CWi.of (by decide) (Nat.le_of_ble_eq_true rfl) rfl ?_
  intro p e s m args below meth c A C E htab
  refine wa_aload C 4 2 dL_meet_0 rfl rfl ?_
  refine wa_iconst (v := 0) C 3 dL_meet_2 rfl rfl ?_
  refine wa_aload_n C 0 4 dL_meet_3 rfl rfl ?_
  refine wa_iload_n C 1 5 dL_meet_4 rfl rfl ?_
  refine wa_iload_n C 2 6 dL_meet_5 rfl rfl ?_
  refine wa_iload_n C 3 7 dL_meet_6 rfl rfl ?_
  refine wx_catch1 (b1 := 0) (q1 := 0) (ci := 11) (As := [.int p1, .int p2, .int p3]) C E htab ({ startPc := 0, endPc := 12, handlerPc := 15, catchType := 18 } : ExceptionTableEntry) [] rfl dL_meet_7 kv_L_49 (x_X11_meet hl hf) ⟨rfl, rfl⟩ ⟨Nat.le_of_ble_eq_true rfl, Nat.le_of_ble_eq_true rfl⟩ rfl rfl rfl [0, 1] [2] [1, 2, 0] rfl rfl rfl rfl (by decide) rfl rfl rfl rfl ⟨Nat.le_of_ble_eq_true rfl, Nat.le_of_ble_eq_true rfl⟩ (Nat.le_of_ble_eq_true rfl) rfl (by decide) q935 cast1 (fun q9 => ?_)
  refine wa_astore (lv' := [(0, .ref (a0 0)), (1, .int p1), (2, .int p2), (3, .int p3), (4, .ref b4), (5, .ref q9)]) C [1, 2, 3, 4, 5, 0] 17 dL_meet_15 rfl (Nat.le_of_ble_eq_true rfl) rfl ?_
  refine wa_iconst (v := 1) C 18 dL_meet_17 rfl rfl ?_
  exact wa_irm C () dL_meet_18 trivial rfl rfl (Nat.le_of_ble_eq_true rfl) (Nat.le_of_ble_eq_true rfl)
set_option maxRecDepth 20000 in
theorem x1_L_together {l : Launch} {D : va_G} {dT : Nat → ClassId} {aK aV : Nat → Nat} {a0 : Nat → Nat} {a0_fam : Nat → Nat → Nat} {b4 : Nat} {h_tape : Nat} {h_reader : Nat} {h_friends : Nat} {h_dusk : Nat} {h_coming : Nat} {h_acts : Nat} {h_seen : Nat} {h_pairs : Nat} {h_trials : Nat} {h_imageNow : Nat} {h_imageActs : Nat} {h_imageSeen : Nat} {v0 : Ob} {v0_fam : FS} {u4 : (Nat → Int64)} {p1 : Int32} {p2 : Int32} {p3 : Int32} (hl : l.stackTraces = false) (hf : t_X11_together v0 v0_fam p1 p2 p3 = some 1) : CWi aK aV l yL_together cL_together 6 [((0 : Nat), (12 : Nat), (15 : Nat), (18 : Nat)), ((0 : Nat), (12 : Nat), (19 : Nat), (13 : Nat))] ({ frames := 8, cells := 1, slots := 6, locals := 147 } : Room) D dT [.ref (a0 0), .int p1, .int p2, .int p3, .ref b4] ([wH dT a0 h_tape h_reader h_friends h_dusk (a0_fam 0 0) h_coming h_acts h_seen h_pairs h_trials h_imageNow h_imageActs h_imageSeen v0, wRw dT v0_fam.1 a0_fam v0_fam.2.2, [(b4, .inl (dT 1, 1, .inr (.inl u4)))]]) (fun _ : Unit => True) (fun _ : Unit => [wH dT a0 h_tape h_reader h_friends h_dusk (a0_fam 0 0) h_coming h_acts h_seen h_pairs h_trials h_imageNow h_imageActs h_imageSeen v0, wRw dT v0_fam.1 a0_fam v0_fam.2.2, [(b4, .inl (dT 1, 1, .inr (.inl u4)))]]) 1 1 6 := by
  refine CWi.of (by decide) (Nat.le_of_ble_eq_true rfl) rfl ?_
  intro p e s m args below meth c A C E htab
  refine wa_aload C 4 2 dL_together_0 rfl rfl ?_
  refine wa_iconst (v := 0) C 3 dL_together_2 rfl rfl ?_
  refine wa_aload_n C 0 4 dL_together_3 rfl rfl ?_
  refine wa_iload_n C 1 5 dL_together_4 rfl rfl ?_
  refine wa_iload_n C 2 6 dL_together_5 rfl rfl ?_
  refine wa_iload_n C 3 7 dL_together_6 rfl rfl ?_
  refine wx_catch1 (b1 := 0) (q1 := 0) (ci := 11) (As := [.int p1, .int p2, .int p3]) C E htab ({ startPc := 0, endPc := 12, handlerPc := 15, catchType := 18 } : ExceptionTableEntry) [({ startPc := 0, endPc := 12, handlerPc := 19, catchType := 13 } : ExceptionTableEntry)] rfl dL_together_7 kv_L_52 (x_X11_together hl hf) ⟨rfl, rfl⟩ ⟨Nat.le_of_ble_eq_true rfl, Nat.le_of_ble_eq_true rfl⟩ rfl rfl rfl [0, 1] [2] [1, 2, 0] rfl rfl rfl rfl (by decide) rfl rfl rfl rfl ⟨Nat.le_of_ble_eq_true rfl, Nat.le_of_ble_eq_true rfl⟩ (Nat.le_of_ble_eq_true rfl) rfl (by decide) q935 cast1 (fun q9 => ?_)
  refine wa_astore (lv' := [(0, .ref (a0 0)), (1, .int p1), (2, .int p2), (3, .int p3), (4, .ref b4), (5, .ref q9)]) C [1, 2, 3, 4, 5, 0] 17 dL_together_15 rfl (Nat.le_of_ble_eq_true rfl) rfl ?_
  refine wa_iconst (v := 1) C 18 dL_together_17 rfl rfl ?_
  exact wa_irm C () dL_together_18 trivial rfl rfl (Nat.le_of_ble_eq_true rfl) (Nat.le_of_ble_eq_true rfl)
set_option maxRecDepth 20000 in
theorem x2_L_together {l : Launch} {D : va_G} {dT : Nat → ClassId} {aK aV : Nat → Nat} {a0 : Nat → Nat} {a0_fam : Nat → Nat → Nat} {b4 : Nat} {h_tape : Nat} {h_reader : Nat} {h_friends : Nat} {h_dusk : Nat} {h_coming : Nat} {h_acts : Nat} {h_seen : Nat} {h_pairs : Nat} {h_trials : Nat} {h_imageNow : Nat} {h_imageActs : Nat} {h_imageSeen : Nat} {v0 : Ob} {v0_fam : FS} {u4 : (Nat → Int64)} {p1 : Int32} {p2 : Int32} {p3 : Int32} (hl : l.stackTraces = false) (hf : t_X11_together v0 v0_fam p1 p2 p3 = some 2) : CWi aK aV l yL_together cL_together 6 [((0 : Nat), (12 : Nat), (15 : Nat), (18 : Nat)), ((0 : Nat), (12 : Nat), (19 : Nat), (13 : Nat))] ({ frames := 8, cells := 1, slots := 6, locals := 147 } : Room) D dT [.ref (a0 0), .int p1, .int p2, .int p3, .ref b4] ([wH dT a0 h_tape h_reader h_friends h_dusk (a0_fam 0 0) h_coming h_acts h_seen h_pairs h_trials h_imageNow h_imageActs h_imageSeen v0, wRw dT v0_fam.1 a0_fam v0_fam.2.2, [(b4, .inl (dT 1, 1, .inr (.inl u4)))]]) (fun _ : Unit => True) (fun _ : Unit => [wH dT a0 h_tape h_reader h_friends h_dusk (a0_fam 0 0) h_coming h_acts h_seen h_pairs h_trials h_imageNow h_imageActs h_imageSeen v0, wRw dT v0_fam.1 a0_fam v0_fam.2.2, [(b4, .inl (dT 1, 1, .inr (.inl u4)))]]) 2 1 6 := by
  refine CWi.of (by decide) (Nat.le_of_ble_eq_true rfl) rfl ?_
  intro p e s m args below meth c A C E htab
  refine wa_aload C 4 2 dL_together_0 rfl rfl ?_
  refine wa_iconst (v := 0) C 3 dL_together_2 rfl rfl ?_
  refine wa_aload_n C 0 4 dL_together_3 rfl rfl ?_
  refine wa_iload_n C 1 5 dL_together_4 rfl rfl ?_
  refine wa_iload_n C 2 6 dL_together_5 rfl rfl ?_
  refine wa_iload_n C 3 7 dL_together_6 rfl rfl ?_
  refine wx_catch2 (b1 := 0) (q1 := 0) (ci := 11) (As := [.int p1, .int p2, .int p3]) C E htab ({ startPc := 0, endPc := 12, handlerPc := 15, catchType := 18 } : ExceptionTableEntry) ({ startPc := 0, endPc := 12, handlerPc := 19, catchType := 13 } : ExceptionTableEntry) [] rfl dL_together_7 kv_L_52 (x_X11_together hl hf) ⟨rfl, rfl⟩ ⟨Nat.le_of_ble_eq_true rfl, Nat.le_of_ble_eq_true rfl⟩ rfl rfl rfl [0, 1] [2] [1, 2, 0] rfl rfl rfl rfl (by decide) rfl rfl rfl rfl ⟨Nat.le_of_ble_eq_true rfl, Nat.le_of_ble_eq_true rfl⟩ (Nat.le_of_ble_eq_true rfl) (by decide) q935 rfl (by decide) q614 cast2 (fun q9 => ?_)
  refine wa_astore (lv' := [(0, .ref (a0 0)), (1, .int p1), (2, .int p2), (3, .int p3), (4, .ref b4), (5, .ref q9)]) C [1, 2, 3, 4, 5, 0] 21 dL_together_19 rfl (Nat.le_of_ble_eq_true rfl) rfl ?_
  refine wa_iconst (v := 2) C 22 dL_together_21 rfl rfl ?_
  exact wa_irm C () dL_together_22 trivial rfl rfl (Nat.le_of_ble_eq_true rfl) (Nat.le_of_ble_eq_true rfl)
set_option maxRecDepth 20000 in
theorem x1_L_goes {l : Launch} {D : va_G} {dT : Nat → ClassId} {aK aV : Nat → Nat} {a0 : Nat → Nat} {a0_fam : Nat → Nat → Nat} {b3 : Nat} {h_tape : Nat} {h_reader : Nat} {h_friends : Nat} {h_dusk : Nat} {h_coming : Nat} {h_acts : Nat} {h_seen : Nat} {h_pairs : Nat} {h_trials : Nat} {h_imageNow : Nat} {h_imageActs : Nat} {h_imageSeen : Nat} {v0 : Ob} {v0_fam : FS} {u3 : (Nat → Int64)} {p1 : Int32} {p2 : Int32} (hl : l.stackTraces = false) (hf : t_X11_goes v0 v0_fam p1 p2 = some 1) : CWi aK aV l yL_goes cL_goes 5 [((0 : Nat), (10 : Nat), (13 : Nat), (18 : Nat))] ({ frames := 8, cells := 1, slots := 6, locals := 143 } : Room) D dT [.ref (a0 0), .int p1, .int p2, .ref b3] ([wH dT a0 h_tape h_reader h_friends h_dusk (a0_fam 0 0) h_coming h_acts h_seen h_pairs h_trials h_imageNow h_imageActs h_imageSeen v0, wRw dT v0_fam.1 a0_fam v0_fam.2.2, [(b3, .inl (dT 1, 1, .inr (.inl u3)))]]) (fun _ : Unit => True) (fun _ : Unit => [wH dT a0 h_tape h_reader h_friends h_dusk (a0_fam 0 0) h_coming h_acts h_seen h_pairs h_trials h_imageNow h_imageActs h_imageSeen v0, wRw dT v0_fam.1 a0_fam v0_fam.2.2, [(b3, .inl (dT 1, 1, .inr (.inl u3)))]]) 1 1 6 := by
  refine CWi.of (by decide) (Nat.le_of_ble_eq_true rfl) rfl ?_
  intro p e s m args below meth c A C E htab
  refine wa_aload_n C 3 1 dL_goes_0 rfl rfl ?_
  refine wa_iconst (v := 0) C 2 dL_goes_1 rfl rfl ?_
  refine wa_aload_n C 0 3 dL_goes_2 rfl rfl ?_
  refine wa_iload_n C 1 4 dL_goes_3 rfl rfl ?_
  refine wa_iload_n C 2 5 dL_goes_4 rfl rfl ?_
  refine wx_catch1 (b1 := 0) (q1 := 0) (ci := 11) (As := [.int p1, .int p2]) C E htab ({ startPc := 0, endPc := 10, handlerPc := 13, catchType := 18 } : ExceptionTableEntry) [] rfl dL_goes_5 kv_L_55 (x_X11_goes hl hf) ⟨rfl, rfl⟩ ⟨Nat.le_of_ble_eq_true rfl, Nat.le_of_ble_eq_true rfl⟩ rfl rfl rfl [0, 1] [2] [1, 2, 0] rfl rfl rfl rfl (by decide) rfl rfl rfl rfl ⟨Nat.le_of_ble_eq_true rfl, Nat.le_of_ble_eq_true rfl⟩ (Nat.le_of_ble_eq_true rfl) rfl (by decide) q935 cast1 (fun q9 => ?_)
  refine wa_astore (lv' := [(0, .ref (a0 0)), (1, .int p1), (2, .int p2), (3, .ref b3), (4, .ref q9)]) C [1, 2, 3, 4, 0] 15 dL_goes_13 rfl (Nat.le_of_ble_eq_true rfl) rfl ?_
  refine wa_iconst (v := 1) C 16 dL_goes_15 rfl rfl ?_
  exact wa_irm C () dL_goes_16 trivial rfl rfl (Nat.le_of_ble_eq_true rfl) (Nat.le_of_ble_eq_true rfl)
set_option maxRecDepth 20000 in
theorem x1_L_falls {l : Launch} {D : va_G} {dT : Nat → ClassId} {aK aV : Nat → Nat} {a0 : Nat → Nat} {a0_fam : Nat → Nat → Nat} {b2 : Nat} {h_tape : Nat} {h_reader : Nat} {h_friends : Nat} {h_dusk : Nat} {h_coming : Nat} {h_acts : Nat} {h_seen : Nat} {h_pairs : Nat} {h_trials : Nat} {h_imageNow : Nat} {h_imageActs : Nat} {h_imageSeen : Nat} {v0 : Ob} {v0_fam : FS} {u2 : (Nat → Int64)} {p1 : Int32} (hl : l.stackTraces = false) (hf : t_X11_falls v0 v0_fam p1 = some 1) : CWi aK aV l yL_falls cL_falls 4 [((0 : Nat), (9 : Nat), (12 : Nat), (18 : Nat))] ({ frames := 8, cells := 1, slots := 6, locals := 142 } : Room) D dT [.ref (a0 0), .int p1, .ref b2] ([wH dT a0 h_tape h_reader h_friends h_dusk (a0_fam 0 0) h_coming h_acts h_seen h_pairs h_trials h_imageNow h_imageActs h_imageSeen v0, wRw dT v0_fam.1 a0_fam v0_fam.2.2, [(b2, .inl (dT 1, 1, .inr (.inl u2)))]]) (fun _ : Unit => True) (fun _ : Unit => [wH dT a0 h_tape h_reader h_friends h_dusk (a0_fam 0 0) h_coming h_acts h_seen h_pairs h_trials h_imageNow h_imageActs h_imageSeen v0, wRw dT v0_fam.1 a0_fam v0_fam.2.2, [(b2, .inl (dT 1, 1, .inr (.inl u2)))]]) 1 1 6 := by
  refine CWi.of (by decide) (Nat.le_of_ble_eq_true rfl) rfl ?_
  intro p e s m args below meth c A C E htab
  refine wa_aload_n C 2 1 dL_falls_0 rfl rfl ?_
  refine wa_iconst (v := 0) C 2 dL_falls_1 rfl rfl ?_
  refine wa_aload_n C 0 3 dL_falls_2 rfl rfl ?_
  refine wa_iload_n C 1 4 dL_falls_3 rfl rfl ?_
  refine wx_catch1 (b1 := 0) (q1 := 0) (ci := 11) (As := [.int p1]) C E htab ({ startPc := 0, endPc := 9, handlerPc := 12, catchType := 18 } : ExceptionTableEntry) [] rfl dL_falls_4 kv_L_58 (x_X11_falls hl hf) ⟨rfl, rfl⟩ ⟨Nat.le_of_ble_eq_true rfl, Nat.le_of_ble_eq_true rfl⟩ rfl rfl rfl [0, 1] [2] [1, 2, 0] rfl rfl rfl rfl (by decide) rfl rfl rfl rfl ⟨Nat.le_of_ble_eq_true rfl, Nat.le_of_ble_eq_true rfl⟩ (Nat.le_of_ble_eq_true rfl) rfl (by decide) q935 cast1 (fun q9 => ?_)
  refine wa_astore_n (lv' := [(0, .ref (a0 0)), (1, .int p1), (2, .ref b2), (3, .ref q9)]) C [1, 2, 3, 0] 13 dL_falls_12 rfl (Nat.le_of_ble_eq_true rfl) rfl ?_
  refine wa_iconst (v := 1) C 14 dL_falls_13 rfl rfl ?_
  exact wa_irm C () dL_falls_14 trivial rfl rfl (Nat.le_of_ble_eq_true rfl) (Nat.le_of_ble_eq_true rfl)
set_option maxRecDepth 20000 in
theorem x2_L_who {l : Launch} {D : va_G} {dT : Nat → ClassId} {aK aV : Nat → Nat} {a0 : Nat → Nat} {a0_fam : Nat → Nat → Nat} {b4 : Nat} {h_tape : Nat} {h_reader : Nat} {h_friends : Nat} {h_dusk : Nat} {h_coming : Nat} {h_acts : Nat} {h_seen : Nat} {h_pairs : Nat} {h_trials : Nat} {h_imageNow : Nat} {h_imageActs : Nat} {h_imageSeen : Nat} {v0 : Ob} {v0_fam : FS} {u4 : (Nat → Int64)} {p1 : Int32} {p2 : Int32} {p3 : Int32} (hl : l.stackTraces = false) (hf : t_X11_who v0 v0_fam p1 p2 p3 = some 2) : CWi aK aV l yL_who cL_who 6 [((0 : Nat), (12 : Nat), (15 : Nat), (13 : Nat))] ({ frames := 8, cells := 1, slots := 6, locals := 145 } : Room) D dT [.ref (a0 0), .int p1, .int p2, .int p3, .ref b4] ([wH dT a0 h_tape h_reader h_friends h_dusk (a0_fam 0 0) h_coming h_acts h_seen h_pairs h_trials h_imageNow h_imageActs h_imageSeen v0, wRw dT v0_fam.1 a0_fam v0_fam.2.2, [(b4, .inl (dT 1, 1, .inr (.inl u4)))]]) (fun _ : Unit => True) (fun _ : Unit => [wH dT a0 h_tape h_reader h_friends h_dusk (a0_fam 0 0) h_coming h_acts h_seen h_pairs h_trials h_imageNow h_imageActs h_imageSeen v0, wRw dT v0_fam.1 a0_fam v0_fam.2.2, [(b4, .inl (dT 1, 1, .inr (.inl u4)))]]) 1 1 6 := by
  refine CWi.of (by decide) (Nat.le_of_ble_eq_true rfl) rfl ?_
  intro p e s m args below meth c A C E htab
  refine wa_aload C 4 2 dL_who_0 rfl rfl ?_
  refine wa_iconst (v := 0) C 3 dL_who_2 rfl rfl ?_
  refine wa_aload_n C 0 4 dL_who_3 rfl rfl ?_
  refine wa_iload_n C 1 5 dL_who_4 rfl rfl ?_
  refine wa_iload_n C 2 6 dL_who_5 rfl rfl ?_
  refine wa_iload_n C 3 7 dL_who_6 rfl rfl ?_
  refine wx_catch1 (b1 := 0) (q1 := 0) (ci := 11) (As := [.int p1, .int p2, .int p3]) C E htab ({ startPc := 0, endPc := 12, handlerPc := 15, catchType := 13 } : ExceptionTableEntry) [] rfl dL_who_7 kv_L_61 (x_X11_who hl hf) ⟨rfl, rfl⟩ ⟨Nat.le_of_ble_eq_true rfl, Nat.le_of_ble_eq_true rfl⟩ rfl rfl rfl [0, 1] [2] [1, 2, 0] rfl rfl rfl rfl (by decide) rfl rfl rfl rfl ⟨Nat.le_of_ble_eq_true rfl, Nat.le_of_ble_eq_true rfl⟩ (Nat.le_of_ble_eq_true rfl) rfl (by decide) q614 cast2 (fun q9 => ?_)
  refine wa_astore (lv' := [(0, .ref (a0 0)), (1, .int p1), (2, .int p2), (3, .int p3), (4, .ref b4), (5, .ref q9)]) C [1, 2, 3, 4, 5, 0] 17 dL_who_15 rfl (Nat.le_of_ble_eq_true rfl) rfl ?_
  refine wa_iconst (v := 1) C 18 dL_who_17 rfl rfl ?_
  exact wa_irm C () dL_who_18 trivial rfl rfl (Nat.le_of_ble_eq_true rfl) (Nat.le_of_ble_eq_true rfl)
set_option maxRecDepth 20000 in
theorem x1_L_round {l : Launch} {D : va_G} {dT : Nat → ClassId} {aK aV : Nat → Nat} {a0 : Nat → Nat} {a0_fam : Nat → Nat → Nat} {b2 : Nat} {h_tape : Nat} {h_reader : Nat} {h_friends : Nat} {h_dusk : Nat} {h_coming : Nat} {h_acts : Nat} {h_seen : Nat} {h_pairs : Nat} {h_trials : Nat} {h_imageNow : Nat} {h_imageActs : Nat} {h_imageSeen : Nat} {v0 : Ob} {v0_fam : FS} {u2 : (Nat → Int64)} {p1 : Int32} (hl : l.stackTraces = false) (hf : t_X11_round v0 v0_fam p1 = some 1) : CWi aK aV l yL_round cL_round 4 [((0 : Nat), (9 : Nat), (12 : Nat), (18 : Nat))] ({ frames := 8, cells := 1, slots := 6, locals := 142 } : Room) D dT [.ref (a0 0), .int p1, .ref b2] ([wH dT a0 h_tape h_reader h_friends h_dusk (a0_fam 0 0) h_coming h_acts h_seen h_pairs h_trials h_imageNow h_imageActs h_imageSeen v0, wRw dT v0_fam.1 a0_fam v0_fam.2.2, [(b2, .inl (dT 1, 1, .inr (.inl u2)))]]) (fun _ : Unit => True) (fun _ : Unit => [wH dT a0 h_tape h_reader h_friends h_dusk (a0_fam 0 0) h_coming h_acts h_seen h_pairs h_trials h_imageNow h_imageActs h_imageSeen v0, wRw dT v0_fam.1 a0_fam v0_fam.2.2, [(b2, .inl (dT 1, 1, .inr (.inl u2)))]]) 1 1 6 := by
  refine CWi.of (by decide) (Nat.le_of_ble_eq_true rfl) rfl ?_
  intro p e s m args below meth c A C E htab
  refine wa_aload_n C 2 1 dL_round_0 rfl rfl ?_
  refine wa_iconst (v := 0) C 2 dL_round_1 rfl rfl ?_
  refine wa_aload_n C 0 3 dL_round_2 rfl rfl ?_
  refine wa_iload_n C 1 4 dL_round_3 rfl rfl ?_
  refine wx_catch1 (b1 := 0) (q1 := 0) (ci := 11) (As := [.int p1]) C E htab ({ startPc := 0, endPc := 9, handlerPc := 12, catchType := 18 } : ExceptionTableEntry) [] rfl dL_round_4 kv_L_64 (x_X11_round hl hf) ⟨rfl, rfl⟩ ⟨Nat.le_of_ble_eq_true rfl, Nat.le_of_ble_eq_true rfl⟩ rfl rfl rfl [0, 1] [2] [1, 2, 0] rfl rfl rfl rfl (by decide) rfl rfl rfl rfl ⟨Nat.le_of_ble_eq_true rfl, Nat.le_of_ble_eq_true rfl⟩ (Nat.le_of_ble_eq_true rfl) rfl (by decide) q935 cast1 (fun q9 => ?_)
  refine wa_astore_n (lv' := [(0, .ref (a0 0)), (1, .int p1), (2, .ref b2), (3, .ref q9)]) C [1, 2, 3, 0] 13 dL_round_12 rfl (Nat.le_of_ble_eq_true rfl) rfl ?_
  refine wa_iconst (v := 1) C 14 dL_round_13 rfl rfl ?_
  exact wa_irm C () dL_round_14 trivial rfl rfl (Nat.le_of_ble_eq_true rfl) (Nat.le_of_ble_eq_true rfl)
set_option maxRecDepth 20000 in
theorem x1_L_known {l : Launch} {D : va_G} {dT : Nat → ClassId} {aK aV : Nat → Nat} {a0 : Nat → Nat} {a0_fam : Nat → Nat → Nat} {b3 : Nat} {h_tape : Nat} {h_reader : Nat} {h_friends : Nat} {h_dusk : Nat} {h_coming : Nat} {h_acts : Nat} {h_seen : Nat} {h_pairs : Nat} {h_trials : Nat} {h_imageNow : Nat} {h_imageActs : Nat} {h_imageSeen : Nat} {v0 : Ob} {v0_fam : FS} {u3 : (Nat → Int64)} {p1 : Int32} {p2 : Int32} (hl : l.stackTraces = false) (hf : t_X11_known v0 v0_fam p1 p2 = some 1) : CWi aK aV l yL_known cL_known 5 [((0 : Nat), (10 : Nat), (13 : Nat), (18 : Nat)), ((0 : Nat), (10 : Nat), (17 : Nat), (13 : Nat))] ({ frames := 8, cells := 1, slots := 6, locals := 144 } : Room) D dT [.ref (a0 0), .int p1, .int p2, .ref b3] ([wH dT a0 h_tape h_reader h_friends h_dusk (a0_fam 0 0) h_coming h_acts h_seen h_pairs h_trials h_imageNow h_imageActs h_imageSeen v0, wRw dT v0_fam.1 a0_fam v0_fam.2.2, [(b3, .inl (dT 1, 1, .inr (.inl u3)))]]) (fun _ : Unit => True) (fun _ : Unit => [wH dT a0 h_tape h_reader h_friends h_dusk (a0_fam 0 0) h_coming h_acts h_seen h_pairs h_trials h_imageNow h_imageActs h_imageSeen v0, wRw dT v0_fam.1 a0_fam v0_fam.2.2, [(b3, .inl (dT 1, 1, .inr (.inl u3)))]]) 1 1 6 := by
  refine CWi.of (by decide) (Nat.le_of_ble_eq_true rfl) rfl ?_
  intro p e s m args below meth c A C E htab
  refine wa_aload_n C 3 1 dL_known_0 rfl rfl ?_
  refine wa_iconst (v := 0) C 2 dL_known_1 rfl rfl ?_
  refine wa_aload_n C 0 3 dL_known_2 rfl rfl ?_
  refine wa_iload_n C 1 4 dL_known_3 rfl rfl ?_
  refine wa_iload_n C 2 5 dL_known_4 rfl rfl ?_
  refine wx_catch1 (b1 := 0) (q1 := 0) (ci := 11) (As := [.int p1, .int p2]) C E htab ({ startPc := 0, endPc := 10, handlerPc := 13, catchType := 18 } : ExceptionTableEntry) [({ startPc := 0, endPc := 10, handlerPc := 17, catchType := 13 } : ExceptionTableEntry)] rfl dL_known_5 kv_L_67 (x_X11_known hl hf) ⟨rfl, rfl⟩ ⟨Nat.le_of_ble_eq_true rfl, Nat.le_of_ble_eq_true rfl⟩ rfl rfl rfl [0, 1] [2] [1, 2, 0] rfl rfl rfl rfl (by decide) rfl rfl rfl rfl ⟨Nat.le_of_ble_eq_true rfl, Nat.le_of_ble_eq_true rfl⟩ (Nat.le_of_ble_eq_true rfl) rfl (by decide) q935 cast1 (fun q9 => ?_)
  refine wa_astore (lv' := [(0, .ref (a0 0)), (1, .int p1), (2, .int p2), (3, .ref b3), (4, .ref q9)]) C [1, 2, 3, 4, 0] 15 dL_known_13 rfl (Nat.le_of_ble_eq_true rfl) rfl ?_
  refine wa_iconst (v := 1) C 16 dL_known_15 rfl rfl ?_
  exact wa_irm C () dL_known_16 trivial rfl rfl (Nat.le_of_ble_eq_true rfl) (Nat.le_of_ble_eq_true rfl)
set_option maxRecDepth 20000 in
theorem x2_L_known {l : Launch} {D : va_G} {dT : Nat → ClassId} {aK aV : Nat → Nat} {a0 : Nat → Nat} {a0_fam : Nat → Nat → Nat} {b3 : Nat} {h_tape : Nat} {h_reader : Nat} {h_friends : Nat} {h_dusk : Nat} {h_coming : Nat} {h_acts : Nat} {h_seen : Nat} {h_pairs : Nat} {h_trials : Nat} {h_imageNow : Nat} {h_imageActs : Nat} {h_imageSeen : Nat} {v0 : Ob} {v0_fam : FS} {u3 : (Nat → Int64)} {p1 : Int32} {p2 : Int32} (hl : l.stackTraces = false) (hf : t_X11_known v0 v0_fam p1 p2 = some 2) : CWi aK aV l yL_known cL_known 5 [((0 : Nat), (10 : Nat), (13 : Nat), (18 : Nat)), ((0 : Nat), (10 : Nat), (17 : Nat), (13 : Nat))] ({ frames := 8, cells := 1, slots := 6, locals := 144 } : Room) D dT [.ref (a0 0), .int p1, .int p2, .ref b3] ([wH dT a0 h_tape h_reader h_friends h_dusk (a0_fam 0 0) h_coming h_acts h_seen h_pairs h_trials h_imageNow h_imageActs h_imageSeen v0, wRw dT v0_fam.1 a0_fam v0_fam.2.2, [(b3, .inl (dT 1, 1, .inr (.inl u3)))]]) (fun _ : Unit => True) (fun _ : Unit => [wH dT a0 h_tape h_reader h_friends h_dusk (a0_fam 0 0) h_coming h_acts h_seen h_pairs h_trials h_imageNow h_imageActs h_imageSeen v0, wRw dT v0_fam.1 a0_fam v0_fam.2.2, [(b3, .inl (dT 1, 1, .inr (.inl u3)))]]) 2 1 6 := by
  refine CWi.of (by decide) (Nat.le_of_ble_eq_true rfl) rfl ?_
  intro p e s m args below meth c A C E htab
  refine wa_aload_n C 3 1 dL_known_0 rfl rfl ?_
  refine wa_iconst (v := 0) C 2 dL_known_1 rfl rfl ?_
  refine wa_aload_n C 0 3 dL_known_2 rfl rfl ?_
  refine wa_iload_n C 1 4 dL_known_3 rfl rfl ?_
  refine wa_iload_n C 2 5 dL_known_4 rfl rfl ?_
  refine wx_catch2 (b1 := 0) (q1 := 0) (ci := 11) (As := [.int p1, .int p2]) C E htab ({ startPc := 0, endPc := 10, handlerPc := 13, catchType := 18 } : ExceptionTableEntry) ({ startPc := 0, endPc := 10, handlerPc := 17, catchType := 13 } : ExceptionTableEntry) [] rfl dL_known_5 kv_L_67 (x_X11_known hl hf) ⟨rfl, rfl⟩ ⟨Nat.le_of_ble_eq_true rfl, Nat.le_of_ble_eq_true rfl⟩ rfl rfl rfl [0, 1] [2] [1, 2, 0] rfl rfl rfl rfl (by decide) rfl rfl rfl rfl ⟨Nat.le_of_ble_eq_true rfl, Nat.le_of_ble_eq_true rfl⟩ (Nat.le_of_ble_eq_true rfl) (by decide) q935 rfl (by decide) q614 cast2 (fun q9 => ?_)
  refine wa_astore (lv' := [(0, .ref (a0 0)), (1, .int p1), (2, .int p2), (3, .ref b3), (4, .ref q9)]) C [1, 2, 3, 4, 0] 19 dL_known_17 rfl (Nat.le_of_ble_eq_true rfl) rfl ?_
  refine wa_iconst (v := 2) C 20 dL_known_19 rfl rfl ?_
  exact wa_irm C () dL_known_20 trivial rfl rfl (Nat.le_of_ble_eq_true rfl) (Nat.le_of_ble_eq_true rfl)
set_option maxRecDepth 20000 in
theorem x1_L_toMeet {l : Launch} {D : va_G} {dT : Nat → ClassId} {aK aV : Nat → Nat} {a0 : Nat → Nat} {a0_fam : Nat → Nat → Nat} {b3 : Nat} {h_tape : Nat} {h_reader : Nat} {h_friends : Nat} {h_dusk : Nat} {h_coming : Nat} {h_acts : Nat} {h_seen : Nat} {h_pairs : Nat} {h_trials : Nat} {h_imageNow : Nat} {h_imageActs : Nat} {h_imageSeen : Nat} {v0 : Ob} {v0_fam : FS} {u3 : (Nat → Int64)} {p1 : Int32} {p2 : Int32} (hl : l.stackTraces = false) (hf : t_X11_toMeet v0 v0_fam p1 p2 = some 1) : CWi aK aV l yL_toMeet cL_toMeet 5 [((0 : Nat), (10 : Nat), (13 : Nat), (18 : Nat))] ({ frames := 8, cells := 1, slots := 6, locals := 143 } : Room) D dT [.ref (a0 0), .int p1, .int p2, .ref b3] ([wH dT a0 h_tape h_reader h_friends h_dusk (a0_fam 0 0) h_coming h_acts h_seen h_pairs h_trials h_imageNow h_imageActs h_imageSeen v0, wRw dT v0_fam.1 a0_fam v0_fam.2.2, [(b3, .inl (dT 1, 1, .inr (.inl u3)))]]) (fun _ : Unit => True) (fun _ : Unit => [wH dT a0 h_tape h_reader h_friends h_dusk (a0_fam 0 0) h_coming h_acts h_seen h_pairs h_trials h_imageNow h_imageActs h_imageSeen v0, wRw dT v0_fam.1 a0_fam v0_fam.2.2, [(b3, .inl (dT 1, 1, .inr (.inl u3)))]]) 1 1 6 := by
  refine CWi.of (by decide) (Nat.le_of_ble_eq_true rfl) rfl ?_
  intro p e s m args below meth c A C E htab
  refine wa_aload_n C 3 1 dL_toMeet_0 rfl rfl ?_
  refine wa_iconst (v := 0) C 2 dL_toMeet_1 rfl rfl ?_
  refine wa_aload_n C 0 3 dL_toMeet_2 rfl rfl ?_
  refine wa_iload_n C 1 4 dL_toMeet_3 rfl rfl ?_
  refine wa_iload_n C 2 5 dL_toMeet_4 rfl rfl ?_
  refine wx_catch1 (b1 := 0) (q1 := 0) (ci := 11) (As := [.int p1, .int p2]) C E htab ({ startPc := 0, endPc := 10, handlerPc := 13, catchType := 18 } : ExceptionTableEntry) [] rfl dL_toMeet_5 kv_L_70 (x_X11_toMeet hl hf) ⟨rfl, rfl⟩ ⟨Nat.le_of_ble_eq_true rfl, Nat.le_of_ble_eq_true rfl⟩ rfl rfl rfl [0, 1] [2] [1, 2, 0] rfl rfl rfl rfl (by decide) rfl rfl rfl rfl ⟨Nat.le_of_ble_eq_true rfl, Nat.le_of_ble_eq_true rfl⟩ (Nat.le_of_ble_eq_true rfl) rfl (by decide) q935 cast1 (fun q9 => ?_)
  refine wa_astore (lv' := [(0, .ref (a0 0)), (1, .int p1), (2, .int p2), (3, .ref b3), (4, .ref q9)]) C [1, 2, 3, 4, 0] 15 dL_toMeet_13 rfl (Nat.le_of_ble_eq_true rfl) rfl ?_
  refine wa_iconst (v := 1) C 16 dL_toMeet_15 rfl rfl ?_
  exact wa_irm C () dL_toMeet_16 trivial rfl rfl (Nat.le_of_ble_eq_true rfl) (Nat.le_of_ble_eq_true rfl)
set_option maxRecDepth 20000 in
theorem x1_L_partners {l : Launch} {D : va_G} {dT : Nat → ClassId} {aK aV : Nat → Nat} {a0 : Nat → Nat} {a0_fam : Nat → Nat → Nat} {b2 : Nat} {h_tape : Nat} {h_reader : Nat} {h_friends : Nat} {h_dusk : Nat} {h_coming : Nat} {h_acts : Nat} {h_seen : Nat} {h_pairs : Nat} {h_trials : Nat} {h_imageNow : Nat} {h_imageActs : Nat} {h_imageSeen : Nat} {v0 : Ob} {v0_fam : FS} {u2 : (Nat → Int64)} {p1 : Int32} (hl : l.stackTraces = false) (hf : t_X11_partners v0 v0_fam p1 = some 1) : CWi aK aV l yL_partners cL_partners 4 [((0 : Nat), (9 : Nat), (12 : Nat), (18 : Nat))] ({ frames := 8, cells := 1, slots := 6, locals := 142 } : Room) D dT [.ref (a0 0), .int p1, .ref b2] ([wH dT a0 h_tape h_reader h_friends h_dusk (a0_fam 0 0) h_coming h_acts h_seen h_pairs h_trials h_imageNow h_imageActs h_imageSeen v0, wRw dT v0_fam.1 a0_fam v0_fam.2.2, [(b2, .inl (dT 1, 1, .inr (.inl u2)))]]) (fun _ : Unit => True) (fun _ : Unit => [wH dT a0 h_tape h_reader h_friends h_dusk (a0_fam 0 0) h_coming h_acts h_seen h_pairs h_trials h_imageNow h_imageActs h_imageSeen v0, wRw dT v0_fam.1 a0_fam v0_fam.2.2, [(b2, .inl (dT 1, 1, .inr (.inl u2)))]]) 1 1 6 := by
  refine CWi.of (by decide) (Nat.le_of_ble_eq_true rfl) rfl ?_
  intro p e s m args below meth c A C E htab
  refine wa_aload_n C 2 1 dL_partners_0 rfl rfl ?_
  refine wa_iconst (v := 0) C 2 dL_partners_1 rfl rfl ?_
  refine wa_aload_n C 0 3 dL_partners_2 rfl rfl ?_
  refine wa_iload_n C 1 4 dL_partners_3 rfl rfl ?_
  refine wx_catch1 (b1 := 0) (q1 := 0) (ci := 11) (As := [.int p1]) C E htab ({ startPc := 0, endPc := 9, handlerPc := 12, catchType := 18 } : ExceptionTableEntry) [] rfl dL_partners_4 kv_L_73 (x_X11_partners hl hf) ⟨rfl, rfl⟩ ⟨Nat.le_of_ble_eq_true rfl, Nat.le_of_ble_eq_true rfl⟩ rfl rfl rfl [0, 1] [2] [1, 2, 0] rfl rfl rfl rfl (by decide) rfl rfl rfl rfl ⟨Nat.le_of_ble_eq_true rfl, Nat.le_of_ble_eq_true rfl⟩ (Nat.le_of_ble_eq_true rfl) rfl (by decide) q935 cast1 (fun q9 => ?_)
  refine wa_astore_n (lv' := [(0, .ref (a0 0)), (1, .int p1), (2, .ref b2), (3, .ref q9)]) C [1, 2, 3, 0] 13 dL_partners_12 rfl (Nat.le_of_ble_eq_true rfl) rfl ?_
  refine wa_iconst (v := 1) C 14 dL_partners_13 rfl rfl ?_
  exact wa_irm C () dL_partners_14 trivial rfl rfl (Nat.le_of_ble_eq_true rfl) (Nat.le_of_ble_eq_true rfl)
set_option maxRecDepth 20000 in
theorem x1_L_halves {l : Launch} {D : va_G} {dT : Nat → ClassId} {aK aV : Nat → Nat} {a0 : Nat → Nat} {a0_fam : Nat → Nat → Nat} {b2 : Nat} {h_tape : Nat} {h_reader : Nat} {h_friends : Nat} {h_dusk : Nat} {h_coming : Nat} {h_acts : Nat} {h_seen : Nat} {h_pairs : Nat} {h_trials : Nat} {h_imageNow : Nat} {h_imageActs : Nat} {h_imageSeen : Nat} {v0 : Ob} {v0_fam : FS} {u2 : (Nat → Int64)} {p1 : Int32} (hl : l.stackTraces = false) (hf : t_X11_halves v0 v0_fam p1 = some 1) : CWi aK aV l yL_halves cL_halves 4 [((0 : Nat), (9 : Nat), (12 : Nat), (18 : Nat))] ({ frames := 8, cells := 1, slots := 6, locals := 143 } : Room) D dT [.ref (a0 0), .int p1, .ref b2] ([wH dT a0 h_tape h_reader h_friends h_dusk (a0_fam 0 0) h_coming h_acts h_seen h_pairs h_trials h_imageNow h_imageActs h_imageSeen v0, wRw dT v0_fam.1 a0_fam v0_fam.2.2, [(b2, .inl (dT 1, 1, .inr (.inl u2)))]]) (fun _ : Unit => True) (fun _ : Unit => [wH dT a0 h_tape h_reader h_friends h_dusk (a0_fam 0 0) h_coming h_acts h_seen h_pairs h_trials h_imageNow h_imageActs h_imageSeen v0, wRw dT v0_fam.1 a0_fam v0_fam.2.2, [(b2, .inl (dT 1, 1, .inr (.inl u2)))]]) 1 1 6 := by
  refine CWi.of (by decide) (Nat.le_of_ble_eq_true rfl) rfl ?_
  intro p e s m args below meth c A C E htab
  refine wa_aload_n C 2 1 dL_halves_0 rfl rfl ?_
  refine wa_iconst (v := 0) C 2 dL_halves_1 rfl rfl ?_
  refine wa_aload_n C 0 3 dL_halves_2 rfl rfl ?_
  refine wa_iload_n C 1 4 dL_halves_3 rfl rfl ?_
  refine wx_catch1 (b1 := 0) (q1 := 0) (ci := 11) (As := [.int p1]) C E htab ({ startPc := 0, endPc := 9, handlerPc := 12, catchType := 18 } : ExceptionTableEntry) [] rfl dL_halves_4 kv_L_76 (x_X11_halves hl hf) ⟨rfl, rfl⟩ ⟨Nat.le_of_ble_eq_true rfl, Nat.le_of_ble_eq_true rfl⟩ rfl rfl rfl [0, 1] [2] [1, 2, 0] rfl rfl rfl rfl (by decide) rfl rfl rfl rfl ⟨Nat.le_of_ble_eq_true rfl, Nat.le_of_ble_eq_true rfl⟩ (Nat.le_of_ble_eq_true rfl) rfl (by decide) q935 cast1 (fun q9 => ?_)
  refine wa_astore_n (lv' := [(0, .ref (a0 0)), (1, .int p1), (2, .ref b2), (3, .ref q9)]) C [1, 2, 3, 0] 13 dL_halves_12 rfl (Nat.le_of_ble_eq_true rfl) rfl ?_
  refine wa_iconst (v := 1) C 14 dL_halves_13 rfl rfl ?_
  exact wa_irm C () dL_halves_14 trivial rfl rfl (Nat.le_of_ble_eq_true rfl) (Nat.le_of_ble_eq_true rfl)
set_option maxRecDepth 20000 in
theorem x1_L_chain {l : Launch} {D : va_G} {dT : Nat → ClassId} {aK aV : Nat → Nat} {a0 : Nat → Nat} {a0_fam : Nat → Nat → Nat} {b3 : Nat} {h_tape : Nat} {h_reader : Nat} {h_friends : Nat} {h_dusk : Nat} {h_coming : Nat} {h_acts : Nat} {h_seen : Nat} {h_pairs : Nat} {h_trials : Nat} {h_imageNow : Nat} {h_imageActs : Nat} {h_imageSeen : Nat} {v0 : Ob} {v0_fam : FS} {u3 : (Nat → Int64)} {p1 : Int32} {p2 : Int32} (hl : l.stackTraces = false) (hf : t_X11_chain v0 v0_fam p1 p2 = some 1) : CWi aK aV l yL_chain cL_chain 5 [((0 : Nat), (10 : Nat), (13 : Nat), (18 : Nat))] ({ frames := 8, cells := 1, slots := 6, locals := 143 } : Room) D dT [.ref (a0 0), .int p1, .int p2, .ref b3] ([wH dT a0 h_tape h_reader h_friends h_dusk (a0_fam 0 0) h_coming h_acts h_seen h_pairs h_trials h_imageNow h_imageActs h_imageSeen v0, wRw dT v0_fam.1 a0_fam v0_fam.2.2, [(b3, .inl (dT 1, 1, .inr (.inl u3)))]]) (fun _ : Unit => True) (fun _ : Unit => [wH dT a0 h_tape h_reader h_friends h_dusk (a0_fam 0 0) h_coming h_acts h_seen h_pairs h_trials h_imageNow h_imageActs h_imageSeen v0, wRw dT v0_fam.1 a0_fam v0_fam.2.2, [(b3, .inl (dT 1, 1, .inr (.inl u3)))]]) 1 1 6 := by
  refine CWi.of (by decide) (Nat.le_of_ble_eq_true rfl) rfl ?_
  intro p e s m args below meth c A C E htab
  refine wa_aload_n C 3 1 dL_chain_0 rfl rfl ?_
  refine wa_iconst (v := 0) C 2 dL_chain_1 rfl rfl ?_
  refine wa_aload_n C 0 3 dL_chain_2 rfl rfl ?_
  refine wa_iload_n C 1 4 dL_chain_3 rfl rfl ?_
  refine wa_iload_n C 2 5 dL_chain_4 rfl rfl ?_
  refine wx_catch1 (b1 := 0) (q1 := 0) (ci := 11) (As := [.int p1, .int p2]) C E htab ({ startPc := 0, endPc := 10, handlerPc := 13, catchType := 18 } : ExceptionTableEntry) [] rfl dL_chain_5 kv_L_79 (x_X11_chain hl hf) ⟨rfl, rfl⟩ ⟨Nat.le_of_ble_eq_true rfl, Nat.le_of_ble_eq_true rfl⟩ rfl rfl rfl [0, 1] [2] [1, 2, 0] rfl rfl rfl rfl (by decide) rfl rfl rfl rfl ⟨Nat.le_of_ble_eq_true rfl, Nat.le_of_ble_eq_true rfl⟩ (Nat.le_of_ble_eq_true rfl) rfl (by decide) q935 cast1 (fun q9 => ?_)
  refine wa_astore (lv' := [(0, .ref (a0 0)), (1, .int p1), (2, .int p2), (3, .ref b3), (4, .ref q9)]) C [1, 2, 3, 4, 0] 15 dL_chain_13 rfl (Nat.le_of_ble_eq_true rfl) rfl ?_
  refine wa_iconst (v := 1) C 16 dL_chain_15 rfl rfl ?_
  exact wa_irm C () dL_chain_16 trivial rfl rfl (Nat.le_of_ble_eq_true rfl) (Nat.le_of_ble_eq_true rfl)
set_option maxRecDepth 20000 in
theorem x1_L_see {l : Launch} {D : va_G} {dT : Nat → ClassId} {aK aV : Nat → Nat} {a0 : Nat → Nat} {a0_fam : Nat → Nat → Nat} {b4 : Nat} {h_tape : Nat} {h_reader : Nat} {h_friends : Nat} {h_dusk : Nat} {h_coming : Nat} {h_acts : Nat} {h_seen : Nat} {h_pairs : Nat} {h_trials : Nat} {h_imageNow : Nat} {h_imageActs : Nat} {h_imageSeen : Nat} {v0 : Ob} {v0_fam : FS} {u4 : (Nat → Int64)} {p1 : Int32} {p2 : Int32} {p3 : Int32} (hl : l.stackTraces = false) (hf : t_X11_see v0 v0_fam p1 p2 p3 = some 1) : CWi aK aV l yL_see cL_see 6 [((0 : Nat), (12 : Nat), (15 : Nat), (18 : Nat))] ({ frames := 8, cells := 1, slots := 6, locals := 144 } : Room) D dT [.ref (a0 0), .int p1, .int p2, .int p3, .ref b4] ([wH dT a0 h_tape h_reader h_friends h_dusk (a0_fam 0 0) h_coming h_acts h_seen h_pairs h_trials h_imageNow h_imageActs h_imageSeen v0, wRw dT v0_fam.1 a0_fam v0_fam.2.2, [(b4, .inl (dT 1, 1, .inr (.inl u4)))]]) (fun _ : Unit => True) (fun _ : Unit => [wH dT a0 h_tape h_reader h_friends h_dusk (a0_fam 0 0) h_coming h_acts h_seen h_pairs h_trials h_imageNow h_imageActs h_imageSeen v0, wRw dT v0_fam.1 a0_fam v0_fam.2.2, [(b4, .inl (dT 1, 1, .inr (.inl u4)))]]) 1 1 6 := by
  refine CWi.of (by decide) (Nat.le_of_ble_eq_true rfl) rfl ?_
  intro p e s m args below meth c A C E htab
  refine wa_aload C 4 2 dL_see_0 rfl rfl ?_
  refine wa_iconst (v := 0) C 3 dL_see_2 rfl rfl ?_
  refine wa_aload_n C 0 4 dL_see_3 rfl rfl ?_
  refine wa_iload_n C 1 5 dL_see_4 rfl rfl ?_
  refine wa_iload_n C 2 6 dL_see_5 rfl rfl ?_
  refine wa_iload_n C 3 7 dL_see_6 rfl rfl ?_
  refine wx_catch1 (b1 := 0) (q1 := 0) (ci := 11) (As := [.int p1, .int p2, .int p3]) C E htab ({ startPc := 0, endPc := 12, handlerPc := 15, catchType := 18 } : ExceptionTableEntry) [] rfl dL_see_7 kv_L_82 (x_X11_see hl hf) ⟨rfl, rfl⟩ ⟨Nat.le_of_ble_eq_true rfl, Nat.le_of_ble_eq_true rfl⟩ rfl rfl rfl [0, 1] [2] [1, 2, 0] rfl rfl rfl rfl (by decide) rfl rfl rfl rfl ⟨Nat.le_of_ble_eq_true rfl, Nat.le_of_ble_eq_true rfl⟩ (Nat.le_of_ble_eq_true rfl) rfl (by decide) q935 cast1 (fun q9 => ?_)
  refine wa_astore (lv' := [(0, .ref (a0 0)), (1, .int p1), (2, .int p2), (3, .int p3), (4, .ref b4), (5, .ref q9)]) C [1, 2, 3, 4, 5, 0] 17 dL_see_15 rfl (Nat.le_of_ble_eq_true rfl) rfl ?_
  refine wa_iconst (v := 1) C 18 dL_see_17 rfl rfl ?_
  exact wa_irm C () dL_see_18 trivial rfl rfl (Nat.le_of_ble_eq_true rfl) (Nat.le_of_ble_eq_true rfl)
set_option maxRecDepth 20000 in
theorem x1_L_ranked {l : Launch} {D : va_G} {dT : Nat → ClassId} {aK aV : Nat → Nat} {a0 : Nat → Nat} {a0_fam : Nat → Nat → Nat} {b2 : Nat} {h_tape : Nat} {h_reader : Nat} {h_friends : Nat} {h_dusk : Nat} {h_coming : Nat} {h_acts : Nat} {h_seen : Nat} {h_pairs : Nat} {h_trials : Nat} {h_imageNow : Nat} {h_imageActs : Nat} {h_imageSeen : Nat} {v0 : Ob} {v0_fam : FS} {u2 : (Nat → Int64)} {p1 : Int32} (hl : l.stackTraces = false) (hf : t_X11_ranked v0 v0_fam p1 = some 1) : CWi aK aV l yL_ranked cL_ranked 4 [((0 : Nat), (9 : Nat), (12 : Nat), (18 : Nat))] ({ frames := 8, cells := 1, slots := 6, locals := 142 } : Room) D dT [.ref (a0 0), .int p1, .ref b2] ([wH dT a0 h_tape h_reader h_friends h_dusk (a0_fam 0 0) h_coming h_acts h_seen h_pairs h_trials h_imageNow h_imageActs h_imageSeen v0, wRw dT v0_fam.1 a0_fam v0_fam.2.2, [(b2, .inl (dT 1, 1, .inr (.inl u2)))]]) (fun _ : Unit => True) (fun _ : Unit => [wH dT a0 h_tape h_reader h_friends h_dusk (a0_fam 0 0) h_coming h_acts h_seen h_pairs h_trials h_imageNow h_imageActs h_imageSeen v0, wRw dT v0_fam.1 a0_fam v0_fam.2.2, [(b2, .inl (dT 1, 1, .inr (.inl u2)))]]) 1 1 6 := by
  refine CWi.of (by decide) (Nat.le_of_ble_eq_true rfl) rfl ?_
  intro p e s m args below meth c A C E htab
  refine wa_aload_n C 2 1 dL_ranked_0 rfl rfl ?_
  refine wa_iconst (v := 0) C 2 dL_ranked_1 rfl rfl ?_
  refine wa_aload_n C 0 3 dL_ranked_2 rfl rfl ?_
  refine wa_iload_n C 1 4 dL_ranked_3 rfl rfl ?_
  refine wx_catch1 (b1 := 0) (q1 := 0) (ci := 11) (As := [.int p1]) C E htab ({ startPc := 0, endPc := 9, handlerPc := 12, catchType := 18 } : ExceptionTableEntry) [] rfl dL_ranked_4 kv_L_85 (x_X11_ranked hl hf) ⟨rfl, rfl⟩ ⟨Nat.le_of_ble_eq_true rfl, Nat.le_of_ble_eq_true rfl⟩ rfl rfl rfl [0, 1] [2] [1, 2, 0] rfl rfl rfl rfl (by decide) rfl rfl rfl rfl ⟨Nat.le_of_ble_eq_true rfl, Nat.le_of_ble_eq_true rfl⟩ (Nat.le_of_ble_eq_true rfl) rfl (by decide) q935 cast1 (fun q9 => ?_)
  refine wa_astore_n (lv' := [(0, .ref (a0 0)), (1, .int p1), (2, .ref b2), (3, .ref q9)]) C [1, 2, 3, 0] 13 dL_ranked_12 rfl (Nat.le_of_ble_eq_true rfl) rfl ?_
  refine wa_iconst (v := 1) C 14 dL_ranked_13 rfl rfl ?_
  exact wa_irm C () dL_ranked_14 trivial rfl rfl (Nat.le_of_ble_eq_true rfl) (Nat.le_of_ble_eq_true rfl)
set_option maxRecDepth 20000 in
theorem x1_L_look {l : Launch} {D : va_G} {dT : Nat → ClassId} {aK aV : Nat → Nat} {a0 : Nat → Nat} {a0_fam : Nat → Nat → Nat} {b2 : Nat} {h_tape : Nat} {h_reader : Nat} {h_friends : Nat} {h_dusk : Nat} {h_coming : Nat} {h_acts : Nat} {h_seen : Nat} {h_pairs : Nat} {h_trials : Nat} {h_imageNow : Nat} {h_imageActs : Nat} {h_imageSeen : Nat} {v0 : Ob} {v0_fam : FS} {u2 : (Nat → Int64)} {p1 : Int32} (hl : l.stackTraces = false) (hf : t_X11_look v0 v0_fam p1 = some 1) : CWi aK aV l yL_look cL_look 4 [((0 : Nat), (9 : Nat), (12 : Nat), (18 : Nat))] ({ frames := 8, cells := 1, slots := 6, locals := 143 } : Room) D dT [.ref (a0 0), .int p1, .ref b2] ([wH dT a0 h_tape h_reader h_friends h_dusk (a0_fam 0 0) h_coming h_acts h_seen h_pairs h_trials h_imageNow h_imageActs h_imageSeen v0, wRw dT v0_fam.1 a0_fam v0_fam.2.2, [(b2, .inl (dT 1, 1, .inr (.inl u2)))]]) (fun _ : Unit => True) (fun _ : Unit => [wH dT a0 h_tape h_reader h_friends h_dusk (a0_fam 0 0) h_coming h_acts h_seen h_pairs h_trials h_imageNow h_imageActs h_imageSeen v0, wRw dT v0_fam.1 a0_fam v0_fam.2.2, [(b2, .inl (dT 1, 1, .inr (.inl u2)))]]) 1 1 6 := by
  refine CWi.of (by decide) (Nat.le_of_ble_eq_true rfl) rfl ?_
  intro p e s m args below meth c A C E htab
  refine wa_aload_n C 2 1 dL_look_0 rfl rfl ?_
  refine wa_iconst (v := 0) C 2 dL_look_1 rfl rfl ?_
  refine wa_aload_n C 0 3 dL_look_2 rfl rfl ?_
  refine wa_iload_n C 1 4 dL_look_3 rfl rfl ?_
  refine wx_catch1 (b1 := 0) (q1 := 0) (ci := 11) (As := [.int p1]) C E htab ({ startPc := 0, endPc := 9, handlerPc := 12, catchType := 18 } : ExceptionTableEntry) [] rfl dL_look_4 kv_L_88 (x_X11_look hl hf) ⟨rfl, rfl⟩ ⟨Nat.le_of_ble_eq_true rfl, Nat.le_of_ble_eq_true rfl⟩ rfl rfl rfl [0, 1] [2] [1, 2, 0] rfl rfl rfl rfl (by decide) rfl rfl rfl rfl ⟨Nat.le_of_ble_eq_true rfl, Nat.le_of_ble_eq_true rfl⟩ (Nat.le_of_ble_eq_true rfl) rfl (by decide) q935 cast1 (fun q9 => ?_)
  refine wa_astore_n (lv' := [(0, .ref (a0 0)), (1, .int p1), (2, .ref b2), (3, .ref q9)]) C [1, 2, 3, 0] 13 dL_look_12 rfl (Nat.le_of_ble_eq_true rfl) rfl ?_
  refine wa_iconst (v := 1) C 14 dL_look_13 rfl rfl ?_
  exact wa_irm C () dL_look_14 trivial rfl rfl (Nat.le_of_ble_eq_true rfl) (Nat.le_of_ble_eq_true rfl)
set_option maxRecDepth 20000 in
theorem x1_L_storms {l : Launch} {D : va_G} {dT : Nat → ClassId} {aK aV : Nat → Nat} {a0 : Nat → Nat} {a0_fam : Nat → Nat → Nat} {b5 : Nat} {h_tape : Nat} {h_reader : Nat} {h_friends : Nat} {h_dusk : Nat} {h_coming : Nat} {h_acts : Nat} {h_seen : Nat} {h_pairs : Nat} {h_trials : Nat} {h_imageNow : Nat} {h_imageActs : Nat} {h_imageSeen : Nat} {v0 : Ob} {v0_fam : FS} {u5 : (Nat → Int64)} {p1 : Int32} {p2 : Int32} {p3 : Int32} {p4 : Int32} (hl : l.stackTraces = false) (hf : t_X11_storms v0 v0_fam p1 p2 p3 p4 = some 1) : CWi aK aV l yL_storms cL_storms 7 [((0 : Nat), (14 : Nat), (17 : Nat), (18 : Nat)), ((0 : Nat), (14 : Nat), (21 : Nat), (13 : Nat))] ({ frames := 8, cells := 1, slots := 6, locals := 146 } : Room) D dT [.ref (a0 0), .int p1, .int p2, .int p3, .int p4, .ref b5] ([wH dT a0 h_tape h_reader h_friends h_dusk (a0_fam 0 0) h_coming h_acts h_seen h_pairs h_trials h_imageNow h_imageActs h_imageSeen v0, wRw dT v0_fam.1 a0_fam v0_fam.2.2, [(b5, .inl (dT 1, 1, .inr (.inl u5)))]]) (fun _ : Unit => True) (fun _ : Unit => [wH dT a0 h_tape h_reader h_friends h_dusk (a0_fam 0 0) h_coming h_acts h_seen h_pairs h_trials h_imageNow h_imageActs h_imageSeen v0, wRw dT v0_fam.1 a0_fam v0_fam.2.2, [(b5, .inl (dT 1, 1, .inr (.inl u5)))]]) 1 1 6 := by
  refine CWi.of (by decide) (Nat.le_of_ble_eq_true rfl) rfl ?_
  intro p e s m args below meth c A C E htab
  refine wa_aload C 5 2 dL_storms_0 rfl rfl ?_
  refine wa_iconst (v := 0) C 3 dL_storms_2 rfl rfl ?_
  refine wa_aload_n C 0 4 dL_storms_3 rfl rfl ?_
  refine wa_iload_n C 1 5 dL_storms_4 rfl rfl ?_
  refine wa_iload_n C 2 6 dL_storms_5 rfl rfl ?_
  refine wa_iload_n C 3 7 dL_storms_6 rfl rfl ?_
  refine wa_iload C 4 9 dL_storms_7 rfl rfl ?_
  refine wx_catch1 (b1 := 0) (q1 := 0) (ci := 11) (As := [.int p1, .int p2, .int p3, .int p4]) C E htab ({ startPc := 0, endPc := 14, handlerPc := 17, catchType := 18 } : ExceptionTableEntry) [({ startPc := 0, endPc := 14, handlerPc := 21, catchType := 13 } : ExceptionTableEntry)] rfl dL_storms_9 kv_L_91 (x_X11_storms hl hf) ⟨rfl, rfl⟩ ⟨Nat.le_of_ble_eq_true rfl, Nat.le_of_ble_eq_true rfl⟩ rfl rfl rfl [0, 1] [2] [1, 2, 0] rfl rfl rfl rfl (by decide) rfl rfl rfl rfl ⟨Nat.le_of_ble_eq_true rfl, Nat.le_of_ble_eq_true rfl⟩ (Nat.le_of_ble_eq_true rfl) rfl (by decide) q935 cast1 (fun q9 => ?_)
  refine wa_astore (lv' := [(0, .ref (a0 0)), (1, .int p1), (2, .int p2), (3, .int p3), (4, .int p4), (5, .ref b5), (6, .ref q9)]) C [1, 2, 3, 4, 5, 6, 0] 19 dL_storms_17 rfl (Nat.le_of_ble_eq_true rfl) rfl ?_
  refine wa_iconst (v := 1) C 20 dL_storms_19 rfl rfl ?_
  exact wa_irm C () dL_storms_20 trivial rfl rfl (Nat.le_of_ble_eq_true rfl) (Nat.le_of_ble_eq_true rfl)
set_option maxRecDepth 20000 in
theorem x2_L_storms {l : Launch} {D : va_G} {dT : Nat → ClassId} {aK aV : Nat → Nat} {a0 : Nat → Nat} {a0_fam : Nat → Nat → Nat} {b5 : Nat} {h_tape : Nat} {h_reader : Nat} {h_friends : Nat} {h_dusk : Nat} {h_coming : Nat} {h_acts : Nat} {h_seen : Nat} {h_pairs : Nat} {h_trials : Nat} {h_imageNow : Nat} {h_imageActs : Nat} {h_imageSeen : Nat} {v0 : Ob} {v0_fam : FS} {u5 : (Nat → Int64)} {p1 : Int32} {p2 : Int32} {p3 : Int32} {p4 : Int32} (hl : l.stackTraces = false) (hf : t_X11_storms v0 v0_fam p1 p2 p3 p4 = some 2) : CWi aK aV l yL_storms cL_storms 7 [((0 : Nat), (14 : Nat), (17 : Nat), (18 : Nat)), ((0 : Nat), (14 : Nat), (21 : Nat), (13 : Nat))] ({ frames := 8, cells := 1, slots := 6, locals := 146 } : Room) D dT [.ref (a0 0), .int p1, .int p2, .int p3, .int p4, .ref b5] ([wH dT a0 h_tape h_reader h_friends h_dusk (a0_fam 0 0) h_coming h_acts h_seen h_pairs h_trials h_imageNow h_imageActs h_imageSeen v0, wRw dT v0_fam.1 a0_fam v0_fam.2.2, [(b5, .inl (dT 1, 1, .inr (.inl u5)))]]) (fun _ : Unit => True) (fun _ : Unit => [wH dT a0 h_tape h_reader h_friends h_dusk (a0_fam 0 0) h_coming h_acts h_seen h_pairs h_trials h_imageNow h_imageActs h_imageSeen v0, wRw dT v0_fam.1 a0_fam v0_fam.2.2, [(b5, .inl (dT 1, 1, .inr (.inl u5)))]]) 2 1 6 := by
  refine CWi.of (by decide) (Nat.le_of_ble_eq_true rfl) rfl ?_
  intro p e s m args below meth c A C E htab
  refine wa_aload C 5 2 dL_storms_0 rfl rfl ?_
  refine wa_iconst (v := 0) C 3 dL_storms_2 rfl rfl ?_
  refine wa_aload_n C 0 4 dL_storms_3 rfl rfl ?_
  refine wa_iload_n C 1 5 dL_storms_4 rfl rfl ?_
  refine wa_iload_n C 2 6 dL_storms_5 rfl rfl ?_
  refine wa_iload_n C 3 7 dL_storms_6 rfl rfl ?_
  refine wa_iload C 4 9 dL_storms_7 rfl rfl ?_
  refine wx_catch2 (b1 := 0) (q1 := 0) (ci := 11) (As := [.int p1, .int p2, .int p3, .int p4]) C E htab ({ startPc := 0, endPc := 14, handlerPc := 17, catchType := 18 } : ExceptionTableEntry) ({ startPc := 0, endPc := 14, handlerPc := 21, catchType := 13 } : ExceptionTableEntry) [] rfl dL_storms_9 kv_L_91 (x_X11_storms hl hf) ⟨rfl, rfl⟩ ⟨Nat.le_of_ble_eq_true rfl, Nat.le_of_ble_eq_true rfl⟩ rfl rfl rfl [0, 1] [2] [1, 2, 0] rfl rfl rfl rfl (by decide) rfl rfl rfl rfl ⟨Nat.le_of_ble_eq_true rfl, Nat.le_of_ble_eq_true rfl⟩ (Nat.le_of_ble_eq_true rfl) (by decide) q935 rfl (by decide) q614 cast2 (fun q9 => ?_)
  refine wa_astore (lv' := [(0, .ref (a0 0)), (1, .int p1), (2, .int p2), (3, .int p3), (4, .int p4), (5, .ref b5), (6, .ref q9)]) C [1, 2, 3, 4, 5, 6, 0] 23 dL_storms_21 rfl (Nat.le_of_ble_eq_true rfl) rfl ?_
  refine wa_iconst (v := 2) C 24 dL_storms_23 rfl rfl ?_
  exact wa_irm C () dL_storms_24 trivial rfl rfl (Nat.le_of_ble_eq_true rfl) (Nat.le_of_ble_eq_true rfl)
set_option maxRecDepth 20000 in
theorem x1_L_game {l : Launch} {D : va_G} {dT : Nat → ClassId} {aK aV : Nat → Nat} {a0 : Nat → Nat} {a0_fam : Nat → Nat → Nat} {b4 : Nat} {h_tape : Nat} {h_reader : Nat} {h_friends : Nat} {h_dusk : Nat} {h_coming : Nat} {h_acts : Nat} {h_seen : Nat} {h_pairs : Nat} {h_trials : Nat} {h_imageNow : Nat} {h_imageActs : Nat} {h_imageSeen : Nat} {v0 : Ob} {v0_fam : FS} {u4 : (Nat → Int64)} {p1 : Int32} {p2 : Int32} {p3 : Int32} (hl : l.stackTraces = false) (hf : t_X11_game v0 v0_fam p1 p2 p3 = some 1) : CWi aK aV l yL_game cL_game 6 [((0 : Nat), (12 : Nat), (15 : Nat), (18 : Nat)), ((0 : Nat), (12 : Nat), (19 : Nat), (13 : Nat))] ({ frames := 8, cells := 1, slots := 6, locals := 144 } : Room) D dT [.ref (a0 0), .int p1, .int p2, .int p3, .ref b4] ([wH dT a0 h_tape h_reader h_friends h_dusk (a0_fam 0 0) h_coming h_acts h_seen h_pairs h_trials h_imageNow h_imageActs h_imageSeen v0, wRw dT v0_fam.1 a0_fam v0_fam.2.2, [(b4, .inl (dT 1, 1, .inr (.inl u4)))]]) (fun _ : Unit => True) (fun _ : Unit => [wH dT a0 h_tape h_reader h_friends h_dusk (a0_fam 0 0) h_coming h_acts h_seen h_pairs h_trials h_imageNow h_imageActs h_imageSeen v0, wRw dT v0_fam.1 a0_fam v0_fam.2.2, [(b4, .inl (dT 1, 1, .inr (.inl u4)))]]) 1 1 6 := by
  refine CWi.of (by decide) (Nat.le_of_ble_eq_true rfl) rfl ?_
  intro p e s m args below meth c A C E htab
  refine wa_aload C 4 2 dL_game_0 rfl rfl ?_
  refine wa_iconst (v := 0) C 3 dL_game_2 rfl rfl ?_
  refine wa_aload_n C 0 4 dL_game_3 rfl rfl ?_
  refine wa_iload_n C 1 5 dL_game_4 rfl rfl ?_
  refine wa_iload_n C 2 6 dL_game_5 rfl rfl ?_
  refine wa_iload_n C 3 7 dL_game_6 rfl rfl ?_
  refine wx_catch1 (b1 := 0) (q1 := 0) (ci := 11) (As := [.int p1, .int p2, .int p3]) C E htab ({ startPc := 0, endPc := 12, handlerPc := 15, catchType := 18 } : ExceptionTableEntry) [({ startPc := 0, endPc := 12, handlerPc := 19, catchType := 13 } : ExceptionTableEntry)] rfl dL_game_7 kv_L_95 (x_X11_game hl hf) ⟨rfl, rfl⟩ ⟨Nat.le_of_ble_eq_true rfl, Nat.le_of_ble_eq_true rfl⟩ rfl rfl rfl [0, 1] [2] [1, 2, 0] rfl rfl rfl rfl (by decide) rfl rfl rfl rfl ⟨Nat.le_of_ble_eq_true rfl, Nat.le_of_ble_eq_true rfl⟩ (Nat.le_of_ble_eq_true rfl) rfl (by decide) q935 cast1 (fun q9 => ?_)
  refine wa_astore (lv' := [(0, .ref (a0 0)), (1, .int p1), (2, .int p2), (3, .int p3), (4, .ref b4), (5, .ref q9)]) C [1, 2, 3, 4, 5, 0] 17 dL_game_15 rfl (Nat.le_of_ble_eq_true rfl) rfl ?_
  refine wa_iconst (v := 1) C 18 dL_game_17 rfl rfl ?_
  exact wa_irm C () dL_game_18 trivial rfl rfl (Nat.le_of_ble_eq_true rfl) (Nat.le_of_ble_eq_true rfl)
set_option maxRecDepth 20000 in
theorem x2_L_game {l : Launch} {D : va_G} {dT : Nat → ClassId} {aK aV : Nat → Nat} {a0 : Nat → Nat} {a0_fam : Nat → Nat → Nat} {b4 : Nat} {h_tape : Nat} {h_reader : Nat} {h_friends : Nat} {h_dusk : Nat} {h_coming : Nat} {h_acts : Nat} {h_seen : Nat} {h_pairs : Nat} {h_trials : Nat} {h_imageNow : Nat} {h_imageActs : Nat} {h_imageSeen : Nat} {v0 : Ob} {v0_fam : FS} {u4 : (Nat → Int64)} {p1 : Int32} {p2 : Int32} {p3 : Int32} (hl : l.stackTraces = false) (hf : t_X11_game v0 v0_fam p1 p2 p3 = some 2) : CWi aK aV l yL_game cL_game 6 [((0 : Nat), (12 : Nat), (15 : Nat), (18 : Nat)), ((0 : Nat), (12 : Nat), (19 : Nat), (13 : Nat))] ({ frames := 8, cells := 1, slots := 6, locals := 144 } : Room) D dT [.ref (a0 0), .int p1, .int p2, .int p3, .ref b4] ([wH dT a0 h_tape h_reader h_friends h_dusk (a0_fam 0 0) h_coming h_acts h_seen h_pairs h_trials h_imageNow h_imageActs h_imageSeen v0, wRw dT v0_fam.1 a0_fam v0_fam.2.2, [(b4, .inl (dT 1, 1, .inr (.inl u4)))]]) (fun _ : Unit => True) (fun _ : Unit => [wH dT a0 h_tape h_reader h_friends h_dusk (a0_fam 0 0) h_coming h_acts h_seen h_pairs h_trials h_imageNow h_imageActs h_imageSeen v0, wRw dT v0_fam.1 a0_fam v0_fam.2.2, [(b4, .inl (dT 1, 1, .inr (.inl u4)))]]) 2 1 6 := by
  refine CWi.of (by decide) (Nat.le_of_ble_eq_true rfl) rfl ?_
  intro p e s m args below meth c A C E htab
  refine wa_aload C 4 2 dL_game_0 rfl rfl ?_
  refine wa_iconst (v := 0) C 3 dL_game_2 rfl rfl ?_
  refine wa_aload_n C 0 4 dL_game_3 rfl rfl ?_
  refine wa_iload_n C 1 5 dL_game_4 rfl rfl ?_
  refine wa_iload_n C 2 6 dL_game_5 rfl rfl ?_
  refine wa_iload_n C 3 7 dL_game_6 rfl rfl ?_
  refine wx_catch2 (b1 := 0) (q1 := 0) (ci := 11) (As := [.int p1, .int p2, .int p3]) C E htab ({ startPc := 0, endPc := 12, handlerPc := 15, catchType := 18 } : ExceptionTableEntry) ({ startPc := 0, endPc := 12, handlerPc := 19, catchType := 13 } : ExceptionTableEntry) [] rfl dL_game_7 kv_L_95 (x_X11_game hl hf) ⟨rfl, rfl⟩ ⟨Nat.le_of_ble_eq_true rfl, Nat.le_of_ble_eq_true rfl⟩ rfl rfl rfl [0, 1] [2] [1, 2, 0] rfl rfl rfl rfl (by decide) rfl rfl rfl rfl ⟨Nat.le_of_ble_eq_true rfl, Nat.le_of_ble_eq_true rfl⟩ (Nat.le_of_ble_eq_true rfl) (by decide) q935 rfl (by decide) q614 cast2 (fun q9 => ?_)
  refine wa_astore (lv' := [(0, .ref (a0 0)), (1, .int p1), (2, .int p2), (3, .int p3), (4, .ref b4), (5, .ref q9)]) C [1, 2, 3, 4, 5, 0] 21 dL_game_19 rfl (Nat.le_of_ble_eq_true rfl) rfl ?_
  refine wa_iconst (v := 2) C 22 dL_game_21 rfl rfl ?_
  exact wa_irm C () dL_game_22 trivial rfl rfl (Nat.le_of_ble_eq_true rfl) (Nat.le_of_ble_eq_true rfl)
set_option maxRecDepth 20000 in
theorem x1_L_years {l : Launch} {D : va_G} {dT : Nat → ClassId} {aK aV : Nat → Nat} {a0 : Nat → Nat} {a0_fam : Nat → Nat → Nat} {b4 : Nat} {h_tape : Nat} {h_reader : Nat} {h_friends : Nat} {h_dusk : Nat} {h_coming : Nat} {h_acts : Nat} {h_seen : Nat} {h_pairs : Nat} {h_trials : Nat} {h_imageNow : Nat} {h_imageActs : Nat} {h_imageSeen : Nat} {v0 : Ob} {v0_fam : FS} {u4 : (Nat → Int64)} {p1 : Int32} {p2 : Int32} {p3 : Int32} (hl : l.stackTraces = false) (hf : t_X11_years v0 v0_fam p1 p2 p3 = some 1) : CWi aK aV l yL_years cL_years 6 [((0 : Nat), (12 : Nat), (15 : Nat), (18 : Nat)), ((0 : Nat), (12 : Nat), (19 : Nat), (13 : Nat))] ({ frames := 8, cells := 1, slots := 6, locals := 145 } : Room) D dT [.ref (a0 0), .int p1, .int p2, .int p3, .ref b4] ([wH dT a0 h_tape h_reader h_friends h_dusk (a0_fam 0 0) h_coming h_acts h_seen h_pairs h_trials h_imageNow h_imageActs h_imageSeen v0, wRw dT v0_fam.1 a0_fam v0_fam.2.2, [(b4, .inl (dT 1, 1, .inr (.inl u4)))]]) (fun _ : Unit => True) (fun _ : Unit => [wH dT a0 h_tape h_reader h_friends h_dusk (a0_fam 0 0) h_coming h_acts h_seen h_pairs h_trials h_imageNow h_imageActs h_imageSeen v0, wRw dT v0_fam.1 a0_fam v0_fam.2.2, [(b4, .inl (dT 1, 1, .inr (.inl u4)))]]) 1 1 6 := by
  refine CWi.of (by decide) (Nat.le_of_ble_eq_true rfl) rfl ?_
  intro p e s m args below meth c A C E htab
  refine wa_aload C 4 2 dL_years_0 rfl rfl ?_
  refine wa_iconst (v := 0) C 3 dL_years_2 rfl rfl ?_
  refine wa_aload_n C 0 4 dL_years_3 rfl rfl ?_
  refine wa_iload_n C 1 5 dL_years_4 rfl rfl ?_
  refine wa_iload_n C 2 6 dL_years_5 rfl rfl ?_
  refine wa_iload_n C 3 7 dL_years_6 rfl rfl ?_
  refine wx_catch1 (b1 := 0) (q1 := 0) (ci := 11) (As := [.int p1, .int p2, .int p3]) C E htab ({ startPc := 0, endPc := 12, handlerPc := 15, catchType := 18 } : ExceptionTableEntry) [({ startPc := 0, endPc := 12, handlerPc := 19, catchType := 13 } : ExceptionTableEntry)] rfl dL_years_7 kv_L_98 (x_X11_years hl hf) ⟨rfl, rfl⟩ ⟨Nat.le_of_ble_eq_true rfl, Nat.le_of_ble_eq_true rfl⟩ rfl rfl rfl [0, 1] [2] [1, 2, 0] rfl rfl rfl rfl (by decide) rfl rfl rfl rfl ⟨Nat.le_of_ble_eq_true rfl, Nat.le_of_ble_eq_true rfl⟩ (Nat.le_of_ble_eq_true rfl) rfl (by decide) q935 cast1 (fun q9 => ?_)
  refine wa_astore (lv' := [(0, .ref (a0 0)), (1, .int p1), (2, .int p2), (3, .int p3), (4, .ref b4), (5, .ref q9)]) C [1, 2, 3, 4, 5, 0] 17 dL_years_15 rfl (Nat.le_of_ble_eq_true rfl) rfl ?_
  refine wa_iconst (v := 1) C 18 dL_years_17 rfl rfl ?_
  exact wa_irm C () dL_years_18 trivial rfl rfl (Nat.le_of_ble_eq_true rfl) (Nat.le_of_ble_eq_true rfl)
set_option maxRecDepth 20000 in
theorem x2_L_years {l : Launch} {D : va_G} {dT : Nat → ClassId} {aK aV : Nat → Nat} {a0 : Nat → Nat} {a0_fam : Nat → Nat → Nat} {b4 : Nat} {h_tape : Nat} {h_reader : Nat} {h_friends : Nat} {h_dusk : Nat} {h_coming : Nat} {h_acts : Nat} {h_seen : Nat} {h_pairs : Nat} {h_trials : Nat} {h_imageNow : Nat} {h_imageActs : Nat} {h_imageSeen : Nat} {v0 : Ob} {v0_fam : FS} {u4 : (Nat → Int64)} {p1 : Int32} {p2 : Int32} {p3 : Int32} (hl : l.stackTraces = false) (hf : t_X11_years v0 v0_fam p1 p2 p3 = some 2) : CWi aK aV l yL_years cL_years 6 [((0 : Nat), (12 : Nat), (15 : Nat), (18 : Nat)), ((0 : Nat), (12 : Nat), (19 : Nat), (13 : Nat))] ({ frames := 8, cells := 1, slots := 6, locals := 145 } : Room) D dT [.ref (a0 0), .int p1, .int p2, .int p3, .ref b4] ([wH dT a0 h_tape h_reader h_friends h_dusk (a0_fam 0 0) h_coming h_acts h_seen h_pairs h_trials h_imageNow h_imageActs h_imageSeen v0, wRw dT v0_fam.1 a0_fam v0_fam.2.2, [(b4, .inl (dT 1, 1, .inr (.inl u4)))]]) (fun _ : Unit => True) (fun _ : Unit => [wH dT a0 h_tape h_reader h_friends h_dusk (a0_fam 0 0) h_coming h_acts h_seen h_pairs h_trials h_imageNow h_imageActs h_imageSeen v0, wRw dT v0_fam.1 a0_fam v0_fam.2.2, [(b4, .inl (dT 1, 1, .inr (.inl u4)))]]) 2 1 6 := by
  refine CWi.of (by decide) (Nat.le_of_ble_eq_true rfl) rfl ?_
  intro p e s m args below meth c A C E htab
  refine wa_aload C 4 2 dL_years_0 rfl rfl ?_
  refine wa_iconst (v := 0) C 3 dL_years_2 rfl rfl ?_
  refine wa_aload_n C 0 4 dL_years_3 rfl rfl ?_
  refine wa_iload_n C 1 5 dL_years_4 rfl rfl ?_
  refine wa_iload_n C 2 6 dL_years_5 rfl rfl ?_
  refine wa_iload_n C 3 7 dL_years_6 rfl rfl ?_
  refine wx_catch2 (b1 := 0) (q1 := 0) (ci := 11) (As := [.int p1, .int p2, .int p3]) C E htab ({ startPc := 0, endPc := 12, handlerPc := 15, catchType := 18 } : ExceptionTableEntry) ({ startPc := 0, endPc := 12, handlerPc := 19, catchType := 13 } : ExceptionTableEntry) [] rfl dL_years_7 kv_L_98 (x_X11_years hl hf) ⟨rfl, rfl⟩ ⟨Nat.le_of_ble_eq_true rfl, Nat.le_of_ble_eq_true rfl⟩ rfl rfl rfl [0, 1] [2] [1, 2, 0] rfl rfl rfl rfl (by decide) rfl rfl rfl rfl ⟨Nat.le_of_ble_eq_true rfl, Nat.le_of_ble_eq_true rfl⟩ (Nat.le_of_ble_eq_true rfl) (by decide) q935 rfl (by decide) q614 cast2 (fun q9 => ?_)
  refine wa_astore (lv' := [(0, .ref (a0 0)), (1, .int p1), (2, .int p2), (3, .int p3), (4, .ref b4), (5, .ref q9)]) C [1, 2, 3, 4, 5, 0] 21 dL_years_19 rfl (Nat.le_of_ble_eq_true rfl) rfl ?_
  refine wa_iconst (v := 2) C 22 dL_years_21 rfl rfl ?_
  exact wa_irm C () dL_years_22 trivial rfl rfl (Nat.le_of_ble_eq_true rfl) (Nat.le_of_ble_eq_true rfl)
set_option maxRecDepth 20000 in
theorem x1_L_ahead {l : Launch} {D : va_G} {dT : Nat → ClassId} {aK aV : Nat → Nat} {a0 : Nat → Nat} {a0_fam : Nat → Nat → Nat} {b3 : Nat} {h_tape : Nat} {h_reader : Nat} {h_friends : Nat} {h_dusk : Nat} {h_coming : Nat} {h_acts : Nat} {h_seen : Nat} {h_pairs : Nat} {h_trials : Nat} {h_imageNow : Nat} {h_imageActs : Nat} {h_imageSeen : Nat} {v0 : Ob} {v0_fam : FS} {u3 : (Nat → Int64)} {p1 : Int32} {p2 : Int32} (hl : l.stackTraces = false) (hf : t_X11_ahead v0 v0_fam p1 p2 = some 1) : CWi aK aV l yL_ahead cL_ahead 5 [((0 : Nat), (10 : Nat), (13 : Nat), (18 : Nat)), ((0 : Nat), (10 : Nat), (17 : Nat), (13 : Nat))] ({ frames := 8, cells := 1, slots := 6, locals := 144 } : Room) D dT [.ref (a0 0), .int p1, .int p2, .ref b3] ([wH dT a0 h_tape h_reader h_friends h_dusk (a0_fam 0 0) h_coming h_acts h_seen h_pairs h_trials h_imageNow h_imageActs h_imageSeen v0, wRw dT v0_fam.1 a0_fam v0_fam.2.2, [(b3, .inl (dT 1, 1, .inr (.inl u3)))]]) (fun _ : Unit => True) (fun _ : Unit => [wH dT a0 h_tape h_reader h_friends h_dusk (a0_fam 0 0) h_coming h_acts h_seen h_pairs h_trials h_imageNow h_imageActs h_imageSeen v0, wRw dT v0_fam.1 a0_fam v0_fam.2.2, [(b3, .inl (dT 1, 1, .inr (.inl u3)))]]) 1 1 6 := by
  refine CWi.of (by decide) (Nat.le_of_ble_eq_true rfl) rfl ?_
  intro p e s m args below meth c A C E htab
  refine wa_aload_n C 3 1 dL_ahead_0 rfl rfl ?_
  refine wa_iconst (v := 0) C 2 dL_ahead_1 rfl rfl ?_
  refine wa_aload_n C 0 3 dL_ahead_2 rfl rfl ?_
  refine wa_iload_n C 1 4 dL_ahead_3 rfl rfl ?_
  refine wa_iload_n C 2 5 dL_ahead_4 rfl rfl ?_
  refine wx_catch1 (b1 := 0) (q1 := 0) (ci := 11) (As := [.int p1, .int p2]) C E htab ({ startPc := 0, endPc := 10, handlerPc := 13, catchType := 18 } : ExceptionTableEntry) [({ startPc := 0, endPc := 10, handlerPc := 17, catchType := 13 } : ExceptionTableEntry)] rfl dL_ahead_5 kv_L_101 (x_X11_ahead hl hf) ⟨rfl, rfl⟩ ⟨Nat.le_of_ble_eq_true rfl, Nat.le_of_ble_eq_true rfl⟩ rfl rfl rfl [0, 1] [2] [1, 2, 0] rfl rfl rfl rfl (by decide) rfl rfl rfl rfl ⟨Nat.le_of_ble_eq_true rfl, Nat.le_of_ble_eq_true rfl⟩ (Nat.le_of_ble_eq_true rfl) rfl (by decide) q935 cast1 (fun q9 => ?_)
  refine wa_astore (lv' := [(0, .ref (a0 0)), (1, .int p1), (2, .int p2), (3, .ref b3), (4, .ref q9)]) C [1, 2, 3, 4, 0] 15 dL_ahead_13 rfl (Nat.le_of_ble_eq_true rfl) rfl ?_
  refine wa_iconst (v := 1) C 16 dL_ahead_15 rfl rfl ?_
  exact wa_irm C () dL_ahead_16 trivial rfl rfl (Nat.le_of_ble_eq_true rfl) (Nat.le_of_ble_eq_true rfl)
set_option maxRecDepth 20000 in
theorem x2_L_ahead {l : Launch} {D : va_G} {dT : Nat → ClassId} {aK aV : Nat → Nat} {a0 : Nat → Nat} {a0_fam : Nat → Nat → Nat} {b3 : Nat} {h_tape : Nat} {h_reader : Nat} {h_friends : Nat} {h_dusk : Nat} {h_coming : Nat} {h_acts : Nat} {h_seen : Nat} {h_pairs : Nat} {h_trials : Nat} {h_imageNow : Nat} {h_imageActs : Nat} {h_imageSeen : Nat} {v0 : Ob} {v0_fam : FS} {u3 : (Nat → Int64)} {p1 : Int32} {p2 : Int32} (hl : l.stackTraces = false) (hf : t_X11_ahead v0 v0_fam p1 p2 = some 2) : CWi aK aV l yL_ahead cL_ahead 5 [((0 : Nat), (10 : Nat), (13 : Nat), (18 : Nat)), ((0 : Nat), (10 : Nat), (17 : Nat), (13 : Nat))] ({ frames := 8, cells := 1, slots := 6, locals := 144 } : Room) D dT [.ref (a0 0), .int p1, .int p2, .ref b3] ([wH dT a0 h_tape h_reader h_friends h_dusk (a0_fam 0 0) h_coming h_acts h_seen h_pairs h_trials h_imageNow h_imageActs h_imageSeen v0, wRw dT v0_fam.1 a0_fam v0_fam.2.2, [(b3, .inl (dT 1, 1, .inr (.inl u3)))]]) (fun _ : Unit => True) (fun _ : Unit => [wH dT a0 h_tape h_reader h_friends h_dusk (a0_fam 0 0) h_coming h_acts h_seen h_pairs h_trials h_imageNow h_imageActs h_imageSeen v0, wRw dT v0_fam.1 a0_fam v0_fam.2.2, [(b3, .inl (dT 1, 1, .inr (.inl u3)))]]) 2 1 6 := by
  refine CWi.of (by decide) (Nat.le_of_ble_eq_true rfl) rfl ?_
  intro p e s m args below meth c A C E htab
  refine wa_aload_n C 3 1 dL_ahead_0 rfl rfl ?_
  refine wa_iconst (v := 0) C 2 dL_ahead_1 rfl rfl ?_
  refine wa_aload_n C 0 3 dL_ahead_2 rfl rfl ?_
  refine wa_iload_n C 1 4 dL_ahead_3 rfl rfl ?_
  refine wa_iload_n C 2 5 dL_ahead_4 rfl rfl ?_
  refine wx_catch2 (b1 := 0) (q1 := 0) (ci := 11) (As := [.int p1, .int p2]) C E htab ({ startPc := 0, endPc := 10, handlerPc := 13, catchType := 18 } : ExceptionTableEntry) ({ startPc := 0, endPc := 10, handlerPc := 17, catchType := 13 } : ExceptionTableEntry) [] rfl dL_ahead_5 kv_L_101 (x_X11_ahead hl hf) ⟨rfl, rfl⟩ ⟨Nat.le_of_ble_eq_true rfl, Nat.le_of_ble_eq_true rfl⟩ rfl rfl rfl [0, 1] [2] [1, 2, 0] rfl rfl rfl rfl (by decide) rfl rfl rfl rfl ⟨Nat.le_of_ble_eq_true rfl, Nat.le_of_ble_eq_true rfl⟩ (Nat.le_of_ble_eq_true rfl) (by decide) q935 rfl (by decide) q614 cast2 (fun q9 => ?_)
  refine wa_astore (lv' := [(0, .ref (a0 0)), (1, .int p1), (2, .int p2), (3, .ref b3), (4, .ref q9)]) C [1, 2, 3, 4, 0] 19 dL_ahead_17 rfl (Nat.le_of_ble_eq_true rfl) rfl ?_
  refine wa_iconst (v := 2) C 20 dL_ahead_19 rfl rfl ?_
  exact wa_irm C () dL_ahead_20 trivial rfl rfl (Nat.le_of_ble_eq_true rfl) (Nat.le_of_ble_eq_true rfl)
