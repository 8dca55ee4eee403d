theorem kv_X11_193 : KV RX11 193 yX11_needPerson cX11_needPerson 2 none 1 := KV.mk q1007 q1009 qs34 q1 q1010 ⟨by decide, by decide, by decide +kernel⟩
theorem kv_X11_207 : KV RX11 207 yX10_since cX10_since 2 (some .int) 1 := KV.mk q1012 q487 q488 q3 q489 ⟨by decide, by decide, by decide +kernel⟩
theorem kv_X11_210 : KV RX11 210 yX10_companions cX10_companions 2 (some .int) 1 := KV.mk q1013 q540 q541 q3 q542 ⟨by decide, by decide, by decide +kernel⟩
theorem kv_X11_213 : KV RX11 213 yX3_of cX3_of 4 (some .int) 1 := KV.mk q1014 q858 q859 q4 q860 ⟨by decide, by decide, by decide +kernel⟩
theorem kv_X11_216 : KV RX11 216 yX2_leaverOf cX2_leaverOf 3 (some .int) 2 := KV.mk q1015 q1016 q1017 q6 q1018 ⟨by decide, by decide, by decide +kernel⟩
theorem kv_X11_220 : KV RX11 220 yX5_partnerOf cX5_partnerOf 6 (some .int) 2 := KV.mk q1019 q1020 q1021 q11 q1022 ⟨by decide, by decide, by decide +kernel⟩
def f_X11_person (v : Ob) (v_friends : Ob) (v_dusk : Ob) (v_dpicks : Ob) (v_dkeeps : Ob) (v_fam : FS) (v_pairs : Ob) (p0 : Int32) (p1 : Int32) : Option (Int32 × Ob × Ob × Ob × Ob) := (f_X11_needPerson v v_fam p0).bind (fun q1 => (if p1 = 0 then grd (decide (0 < v_fam.1)) (grd (decide (0 < v_fam.1)) (grd (vi p0 12) (some (((v_fam.2.2 0).2 2 (p0).toNatClampNeg), v_dusk, v_dpicks, v_dkeeps, v_pairs)))) else (if p1 = 1 then grd (decide (0 < v_fam.1)) (grd (decide (0 < v_fam.1)) (grd (vi p0 12) (some (((v_fam.2.2 0).2 3 (p0).toNatClampNeg), v_dusk, v_dpicks, v_dkeeps, v_pairs)))) else (if p1 = 2 then grd (decide (0 < v_fam.1)) (grd (decide (0 < v_fam.1)) (grd (vi p0 12) (some (((v_fam.2.2 0).2 1 (p0).toNatClampNeg), v_dusk, v_dpicks, v_dkeeps, v_pairs)))) else (if p1 = 3 then grd (decide (0 < v_fam.1)) (grd (decide (0 < v_fam.1)) (grd (vi p0 12) (some (((v_fam.2.2 0).2 5 (p0).toNatClampNeg), v_dusk, v_dpicks, v_dkeeps, v_pairs)))) else (if p1 = 4 then grd (decide (0 < v_fam.1)) ((f_X10_since (v_fam.2.2 0) p0).bind (fun q21 => some (q21, v_dusk, v_dpicks, v_dkeeps, v_pairs))) else (if p1 = 5 then grd (decide (0 < v_fam.1)) ((f_X10_companions (v_fam.2.2 0) p0).bind (fun q25 => some (q25, v_dusk, v_dpicks, v_dkeeps, v_pairs))) else (if p1 = 6 then (f_X3_of v_friends p0).bind (fun q28 => some (q28, v_dusk, v_dpicks, v_dkeeps, v_pairs)) else (if p1 = 7 then grd (decide (0 < v_fam.1)) (grd (decide (0 < v_fam.1)) (grd (vi p0 12) (grd (decide (0 < v_fam.1)) ((f_X2_leaverOf v_dusk v_dpicks v_dkeeps (v_fam.2.2 0) ((v_fam.2.2 0).2 2 (p0).toNatClampNeg)).bind (fun q35 => (if q35.1 = p0 then some ((1 : Int32), q35.2.1, q35.2.2.1, q35.2.2.2, v_pairs) else some ((0 : Int32), q35.2.1, q35.2.2.1, q35.2.2.2, v_pairs))))))) else (if p1 = 8 then grd (decide (0 < v_fam.1)) ((f_X5_partnerOf v_pairs (v_fam.2.2 0) p0).bind (fun q40 => some (q40.1, v_dusk, v_dpicks, v_dkeeps, q40.2))) else none))))))))))
set_option maxRecDepth 20000 in
theorem c_X11_person {l : Launch} {D : va_G} {dT : Nat → ClassId} {a : Nat → Nat} {a_friends : Nat → Nat} {a_dusk : Nat → Nat} {a_dpicks : Nat → Nat} {a_dkeeps : Nat → Nat} {a_fam : Nat → Nat → Nat} {a_pairs : Nat → Nat} {h_tape : Nat} {h_reader : Nat} {h_coming : Nat} {h_acts : Nat} {h_seen : Nat} {h_trials : Nat} {h_imageNow : Nat} {h_imageActs : Nat} {h_imageSeen : Nat} {v : Ob} {v_friends : Ob} {v_dusk : Ob} {v_dpicks : Ob} {v_dkeeps : Ob} {v_fam : FS} {v_pairs : Ob} {p0 : Int32} {p1 : Int32} {res : Int32 × Ob × Ob × Ob × Ob} (hf : f_X11_person v v_friends v_dusk v_dpicks v_dkeeps v_fam v_pairs p0 p1 = some res) : CTi l yX11_person cX11_person 3 (some .int) ({ frames := 6, cells := 0, slots := 0, locals := 133 } : Room) D dT [.ref (a 0), .int p0, .int p1] ([wH dT a h_tape h_reader (a_friends 0) (a_dusk 0) (a_fam 0 0) h_coming h_acts h_seen (a_pairs 0) h_trials h_imageNow h_imageActs h_imageSeen v, wF dT a_friends v_friends, wD dT a_dusk (a_dpicks 0) (a_dkeeps 0) v_dusk, wR dT a_dpicks v_dpicks, wR dT a_dkeeps v_dkeeps, wRw dT v_fam.1 a_fam v_fam.2.2, wP dT a_pairs v_pairs]) ([wH dT a h_tape h_reader (a_friends 0) (a_dusk 0) (a_fam 0 0) h_coming h_acts h_seen (a_pairs 0) h_trials h_imageNow h_imageActs h_imageSeen v, wF dT a_friends v_friends, wD dT a_dusk (a_dpicks 0) (a_dkeeps 0) res.2.1, wR dT a_dpicks res.2.2.1, wR dT a_dkeeps res.2.2.2.1, wRw dT v_fam.1 a_fam v_fam.2.2, wP dT a_pairs res.2.2.2.2]) res.1 := by
  refine CTi.of (by decide) (Nat.le_of_ble_eq_true rfl) rfl ?_
  intro p e s m args below meth c A C
  unfold f_X11_person at hf
  refine wa_aload_n C 0 1 dX11_person_0 rfl rfl ?_
  refine wa_iload_n C 1 2 dX11_person_1 rfl rfl ?_
  obtain ⟨q1, hq1, hf⟩ := bind_ex hf
  refine wa_callVv (b1 := 0) (q1 := 0) (ci := 11) (ws' := [wH dT a h_tape h_reader (a_friends 0) (a_dusk 0) (a_fam 0 0) h_coming h_acts h_seen (a_pairs 0) h_trials h_imageNow h_imageActs h_imageSeen v, wF dT a_friends v_friends, wD dT a_dusk (a_dpicks 0) (a_dkeeps 0) v_dusk, wR dT a_dpicks v_dpicks, wR dT a_dkeeps v_dkeeps, wRw dT v_fam.1 a_fam v_fam.2.2, wP dT a_pairs v_pairs]) (As := [.int p0]) C 5 dX11_person_2 rfl kv_X11_193 (c_X11_needPerson hq1) ⟨rfl, rfl⟩ ⟨Nat.le_of_ble_eq_true rfl, Nat.le_of_ble_eq_true rfl⟩ rfl rfl rfl [0, 5] [1, 2, 3, 4, 6] [5, 0, 1, 2, 3, 6, 4] rfl rfl rfl rfl (by decide) rfl rfl rfl rfl ⟨Nat.zero_le _, Nat.zero_le _⟩ (Nat.le_of_ble_eq_true rfl) ?_
  refine wa_iload_n C 2 6 dX11_person_5 rfl rfl ?_
  by_cases c3 : p1 = 0
  · replace hf := ite_t hf c3
    refine wa_ts C 0 (50) 56 dX11_person_6 c3 (by decide) (by decide) rfl rfl ?_
    refine wa_aload_n C 0 57 dX11_person_56 rfl rfl ?_
    refine wa_get C 60 0 0 7 dX11_person_57 rfl iX11 q364 rfl (Nat.le_of_ble_eq_true rfl) rfl rfl rfl ?_
    obtain ⟨g4, hf⟩ := grd_ex hf
    refine wa_openF 5 0 (of_decide_eq_true g4) List.not_mem_nil rfl ?_
    refine wa_get C 63 7 0 4 dX11_person_60 rfl iX10 q76 rfl (Nat.le_of_ble_eq_true rfl) rfl rfl rfl ?_
    refine wa_closeR (ws := [wH dT a h_tape h_reader (a_friends 0) (a_dusk 0) (a_fam 0 0) h_coming h_acts h_seen (a_pairs 0) h_trials h_imageNow h_imageActs h_imageSeen v, wF dT a_friends v_friends, wD dT a_dusk (a_dpicks 0) (a_dkeeps 0) v_dusk, wR dT a_dpicks v_dpicks, wR dT a_dkeeps v_dkeeps, wRm dT v_fam.1 [0] a_fam v_fam.2.2, wP dT a_pairs v_pairs]) (ws' := [wH dT a h_tape h_reader (a_friends 0) (a_dusk 0) (a_fam 0 0) h_coming h_acts h_seen (a_pairs 0) h_trials h_imageNow h_imageActs h_imageSeen v, wF dT a_friends v_friends, wD dT a_dusk (a_dpicks 0) (a_dkeeps 0) v_dusk, wR dT a_dpicks v_dpicks, wR dT a_dkeeps v_dkeeps, wRw dT v_fam.1 a_fam v_fam.2.2, wP dT a_pairs v_pairs]) 5 0 (of_decide_eq_true g4) List.not_mem_nil rfl rfl ?_
    refine wa_iload_n C 1 64 dX11_person_63 rfl rfl ?_
    obtain ⟨g5, hf⟩ := grd_ex hf
    obtain ⟨g6, hf⟩ := grd_ex hf
    refine wa_openF 5 0 (of_decide_eq_true g5) List.not_mem_nil rfl ?_
    refine wa_iald C 65 7 2 dX11_person_64 rfl rfl rfl (vi_in g6) ?_
    refine wa_closeR (ws := [wH dT a h_tape h_reader (a_friends 0) (a_dusk 0) (a_fam 0 0) h_coming h_acts h_seen (a_pairs 0) h_trials h_imageNow h_imageActs h_imageSeen v, wF dT a_friends v_friends, wD dT a_dusk (a_dpicks 0) (a_dkeeps 0) v_dusk, wR dT a_dpicks v_dpicks, wR dT a_dkeeps v_dkeeps, wRm dT v_fam.1 [0] a_fam v_fam.2.2, wP dT a_pairs v_pairs]) (ws' := [wH dT a h_tape h_reader (a_friends 0) (a_dusk 0) (a_fam 0 0) h_coming h_acts h_seen (a_pairs 0) h_trials h_imageNow h_imageActs h_imageSeen v, wF dT a_friends v_friends, wD dT a_dusk (a_dpicks 0) (a_dkeeps 0) v_dusk, wR dT a_dpicks v_dpicks, wR dT a_dkeeps v_dkeeps, wRw dT v_fam.1 a_fam v_fam.2.2, wP dT a_pairs v_pairs]) 5 0 (of_decide_eq_true g5) List.not_mem_nil rfl rfl ?_
    cases hf
    exact wa_iret C dX11_person_65 rfl rfl
  · replace hf := ite_f hf c3
    by_cases c7 : p1 = 1
    · replace hf := ite_t hf c7
      refine wa_ts C 1 (60) 66 dX11_person_6 c7 (by decide) (by decide) rfl rfl ?_
      refine wa_aload_n C 0 67 dX11_person_66 rfl rfl ?_
      refine wa_get C 70 0 0 7 dX11_person_67 rfl iX11 q364 rfl (Nat.le_of_ble_eq_true rfl) rfl rfl rfl ?_
      obtain ⟨g8, hf⟩ := grd_ex hf
      refine wa_openF 5 0 (of_decide_eq_true g8) List.not_mem_nil rfl ?_
      refine wa_get C 73 7 0 5 dX11_person_70 rfl iX10 q80 rfl (Nat.le_of_ble_eq_true rfl) rfl rfl rfl ?_
      refine wa_closeR (ws := [wH dT a h_tape h_reader (a_friends 0) (a_dusk 0) (a_fam 0 0) h_coming h_acts h_seen (a_pairs 0) h_trials h_imageNow h_imageActs h_imageSeen v, wF dT a_friends v_friends, wD dT a_dusk (a_dpicks 0) (a_dkeeps 0) v_dusk, wR dT a_dpicks v_dpicks, wR dT a_dkeeps v_dkeeps, wRm dT v_fam.1 [0] a_fam v_fam.2.2, wP dT a_pairs v_pairs]) (ws' := [wH dT a h_tape h_reader (a_friends 0) (a_dusk 0) (a_fam 0 0) h_coming h_acts h_seen (a_pairs 0) h_trials h_imageNow h_imageActs h_imageSeen v, wF dT a_friends v_friends, wD dT a_dusk (a_dpicks 0) (a_dkeeps 0) v_dusk, wR dT a_dpicks v_dpicks, wR dT a_dkeeps v_dkeeps, wRw dT v_fam.1 a_fam v_fam.2.2, wP dT a_pairs v_pairs]) 5 0 (of_decide_eq_true g8) List.not_mem_nil rfl rfl ?_
      refine wa_iload_n C 1 74 dX11_person_73 rfl rfl ?_
      obtain ⟨g9, hf⟩ := grd_ex hf
      obtain ⟨g10, hf⟩ := grd_ex hf
      refine wa_openF 5 0 (of_decide_eq_true g9) List.not_mem_nil rfl ?_
      refine wa_iald C 75 7 3 dX11_person_74 rfl rfl rfl (vi_in g10) ?_
      refine wa_closeR (ws := [wH dT a h_tape h_reader (a_friends 0) (a_dusk 0) (a_fam 0 0) h_coming h_acts h_seen (a_pairs 0) h_trials h_imageNow h_imageActs h_imageSeen v, wF dT a_friends v_friends, wD dT a_dusk (a_dpicks 0) (a_dkeeps 0) v_dusk, wR dT a_dpicks v_dpicks, wR dT a_dkeeps v_dkeeps, wRm dT v_fam.1 [0] a_fam v_fam.2.2, wP dT a_pairs v_pairs]) (ws' := [wH dT a h_tape h_reader (a_friends 0) (a_dusk 0) (a_fam 0 0) h_coming h_acts h_seen (a_pairs 0) h_trials h_imageNow h_imageActs h_imageSeen v, wF dT a_friends v_friends, wD dT a_dusk (a_dpicks 0) (a_dkeeps 0) v_dusk, wR dT a_dpicks v_dpicks, wR dT a_dkeeps v_dkeeps, wRw dT v_fam.1 a_fam v_fam.2.2, wP dT a_pairs v_pairs]) 5 0 (of_decide_eq_true g9) List.not_mem_nil rfl rfl ?_
      cases hf
      exact wa_iret C dX11_person_75 rfl rfl
    · replace hf := ite_f hf c7
      by_cases c11 : p1 = 2
      · replace hf := ite_t hf c11
        refine wa_ts C 2 (70) 76 dX11_person_6 c11 (by decide) (by decide) rfl rfl ?_
        refine wa_aload_n C 0 77 dX11_person_76 rfl rfl ?_
        refine wa_get C 80 0 0 7 dX11_person_77 rfl iX11 q364 rfl (Nat.le_of_ble_eq_true rfl) rfl rfl rfl ?_
        obtain ⟨g12, hf⟩ := grd_ex hf
        refine wa_openF 5 0 (of_decide_eq_true g12) List.not_mem_nil rfl ?_
        refine wa_get C 83 7 0 3 dX11_person_80 rfl iX10 q68 rfl (Nat.le_of_ble_eq_true rfl) rfl rfl rfl ?_
        refine wa_closeR (ws := [wH dT a h_tape h_reader (a_friends 0) (a_dusk 0) (a_fam 0 0) h_coming h_acts h_seen (a_pairs 0) h_trials h_imageNow h_imageActs h_imageSeen v, wF dT a_friends v_friends, wD dT a_dusk (a_dpicks 0) (a_dkeeps 0) v_dusk, wR dT a_dpicks v_dpicks, wR dT a_dkeeps v_dkeeps, wRm dT v_fam.1 [0] a_fam v_fam.2.2, wP dT a_pairs v_pairs]) (ws' := [wH dT a h_tape h_reader (a_friends 0) (a_dusk 0) (a_fam 0 0) h_coming h_acts h_seen (a_pairs 0) h_trials h_imageNow h_imageActs h_imageSeen v, wF dT a_friends v_friends, wD dT a_dusk (a_dpicks 0) (a_dkeeps 0) v_dusk, wR dT a_dpicks v_dpicks, wR dT a_dkeeps v_dkeeps, wRw dT v_fam.1 a_fam v_fam.2.2, wP dT a_pairs v_pairs]) 5 0 (of_decide_eq_true g12) List.not_mem_nil rfl rfl ?_
        refine wa_iload_n C 1 84 dX11_person_83 rfl rfl ?_
        obtain ⟨g13, hf⟩ := grd_ex hf
        obtain ⟨g14, hf⟩ := grd_ex hf
        refine wa_openF 5 0 (of_decide_eq_true g13) List.not_mem_nil rfl ?_
        refine wa_iald C 85 7 1 dX11_person_84 rfl rfl rfl (vi_in g14) ?_
        refine wa_closeR (ws := [wH dT a h_tape h_reader (a_friends 0) (a_dusk 0) (a_fam 0 0) h_coming h_acts h_seen (a_pairs 0) h_trials h_imageNow h_imageActs h_imageSeen v, wF dT a_friends v_friends, wD dT a_dusk (a_dpicks 0) (a_dkeeps 0) v_dusk, wR dT a_dpicks v_dpicks, wR dT a_dkeeps v_dkeeps, wRm dT v_fam.1 [0] a_fam v_fam.2.2, wP dT a_pairs v_pairs]) (ws' := [wH dT a h_tape h_reader (a_friends 0) (a_dusk 0) (a_fam 0 0) h_coming h_acts h_seen (a_pairs 0) h_trials h_imageNow h_imageActs h_imageSeen v, wF dT a_friends v_friends, wD dT a_dusk (a_dpicks 0) (a_dkeeps 0) v_dusk, wR dT a_dpicks v_dpicks, wR dT a_dkeeps v_dkeeps, wRw dT v_fam.1 a_fam v_fam.2.2, wP dT a_pairs v_pairs]) 5 0 (of_decide_eq_true g13) List.not_mem_nil rfl rfl ?_
        cases hf
        exact wa_iret C dX11_person_85 rfl rfl
      · replace hf := ite_f hf c11
        by_cases c15 : p1 = 3
        · replace hf := ite_t hf c15
          refine wa_ts C 3 (80) 86 dX11_person_6 c15 (by decide) (by decide) rfl rfl ?_
          refine wa_aload_n C 0 87 dX11_person_86 rfl rfl ?_
          refine wa_get C 90 0 0 7 dX11_person_87 rfl iX11 q364 rfl (Nat.le_of_ble_eq_true rfl) rfl rfl rfl ?_
          obtain ⟨g16, hf⟩ := grd_ex hf
          refine wa_openF 5 0 (of_decide_eq_true g16) List.not_mem_nil rfl ?_
          refine wa_get C 93 7 0 7 dX11_person_90 rfl iX10 q85 rfl (Nat.le_of_ble_eq_true rfl) rfl rfl rfl ?_
          refine wa_closeR (ws := [wH dT a h_tape h_reader (a_friends 0) (a_dusk 0) (a_fam 0 0) h_coming h_acts h_seen (a_pairs 0) h_trials h_imageNow h_imageActs h_imageSeen v, wF dT a_friends v_friends, wD dT a_dusk (a_dpicks 0) (a_dkeeps 0) v_dusk, wR dT a_dpicks v_dpicks, wR dT a_dkeeps v_dkeeps, wRm dT v_fam.1 [0] a_fam v_fam.2.2, wP dT a_pairs v_pairs]) (ws' := [wH dT a h_tape h_reader (a_friends 0) (a_dusk 0) (a_fam 0 0) h_coming h_acts h_seen (a_pairs 0) h_trials h_imageNow h_imageActs h_imageSeen v, wF dT a_friends v_friends, wD dT a_dusk (a_dpicks 0) (a_dkeeps 0) v_dusk, wR dT a_dpicks v_dpicks, wR dT a_dkeeps v_dkeeps, wRw dT v_fam.1 a_fam v_fam.2.2, wP dT a_pairs v_pairs]) 5 0 (of_decide_eq_true g16) List.not_mem_nil rfl rfl ?_
          refine wa_iload_n C 1 94 dX11_person_93 rfl rfl ?_
          obtain ⟨g17, hf⟩ := grd_ex hf
          obtain ⟨g18, hf⟩ := grd_ex hf
          refine wa_openF 5 0 (of_decide_eq_true g17) List.not_mem_nil rfl ?_
          refine wa_iald C 95 7 5 dX11_person_94 rfl rfl rfl (vi_in g18) ?_
          refine wa_closeR (ws := [wH dT a h_tape h_reader (a_friends 0) (a_dusk 0) (a_fam 0 0) h_coming h_acts h_seen (a_pairs 0) h_trials h_imageNow h_imageActs h_imageSeen v, wF dT a_friends v_friends, wD dT a_dusk (a_dpicks 0) (a_dkeeps 0) v_dusk, wR dT a_dpicks v_dpicks, wR dT a_dkeeps v_dkeeps, wRm dT v_fam.1 [0] a_fam v_fam.2.2, wP dT a_pairs v_pairs]) (ws' := [wH dT a h_tape h_reader (a_friends 0) (a_dusk 0) (a_fam 0 0) h_coming h_acts h_seen (a_pairs 0) h_trials h_imageNow h_imageActs h_imageSeen v, wF dT a_friends v_friends, wD dT a_dusk (a_dpicks 0) (a_dkeeps 0) v_dusk, wR dT a_dpicks v_dpicks, wR dT a_dkeeps v_dkeeps, wRw dT v_fam.1 a_fam v_fam.2.2, wP dT a_pairs v_pairs]) 5 0 (of_decide_eq_true g17) List.not_mem_nil rfl rfl ?_
          cases hf
          exact wa_iret C dX11_person_95 rfl rfl
        · replace hf := ite_f hf c15
          by_cases c19 : p1 = 4
          · replace hf := ite_t hf c19
            refine wa_ts C 4 (90) 96 dX11_person_6 c19 (by decide) (by decide) rfl rfl ?_
            refine wa_aload_n C 0 97 dX11_person_96 rfl rfl ?_
            refine wa_get C 100 0 0 7 dX11_person_97 rfl iX11 q364 rfl (Nat.le_of_ble_eq_true rfl) rfl rfl rfl ?_
            refine wa_iload_n C 1 101 dX11_person_100 rfl rfl ?_
            obtain ⟨g20, hf⟩ := grd_ex hf
            replace g20 := of_decide_eq_true g20
            refine wa_openF 5 0 g20 List.not_mem_nil rfl ?_
            obtain ⟨q21, hq21, hf⟩ := bind_ex hf
            refine wa_callVi (b1 := 7) (q1 := 0) (ci := 10) (ws' := [wH dT a h_tape h_reader (a_friends 0) (a_dusk 0) (a_fam 0 0) h_coming h_acts h_seen (a_pairs 0) h_trials h_imageNow h_imageActs h_imageSeen v, wF dT a_friends v_friends, wD dT a_dusk (a_dpicks 0) (a_dkeeps 0) v_dusk, wR dT a_dpicks v_dpicks, wR dT a_dkeeps v_dkeeps, wRm dT v_fam.1 [0] a_fam v_fam.2.2, wP dT a_pairs v_pairs, wV dT (a_fam 0) (v_fam.2.2 0)]) (As := [.int p0]) C 104 dX11_person_101 rfl kv_X11_207 (c_X10_since hq21) ⟨rfl, rfl⟩ ⟨Nat.le_of_ble_eq_true rfl, Nat.le_of_ble_eq_true rfl⟩ rfl rfl rfl [7] [0, 1, 2, 3, 4, 5, 6] [0, 1, 2, 3, 4, 5, 6, 7] rfl rfl rfl rfl (by decide) rfl rfl rfl rfl ⟨Nat.zero_le _, Nat.zero_le _⟩ (Nat.le_of_ble_eq_true rfl) ?_
            refine wa_closeR (ws := [wH dT a h_tape h_reader (a_friends 0) (a_dusk 0) (a_fam 0 0) h_coming h_acts h_seen (a_pairs 0) h_trials h_imageNow h_imageActs h_imageSeen v, wF dT a_friends v_friends, wD dT a_dusk (a_dpicks 0) (a_dkeeps 0) v_dusk, wR dT a_dpicks v_dpicks, wR dT a_dkeeps v_dkeeps, wRm dT v_fam.1 [0] a_fam v_fam.2.2, wP dT a_pairs v_pairs]) (ws' := [wH dT a h_tape h_reader (a_friends 0) (a_dusk 0) (a_fam 0 0) h_coming h_acts h_seen (a_pairs 0) h_trials h_imageNow h_imageActs h_imageSeen v, wF dT a_friends v_friends, wD dT a_dusk (a_dpicks 0) (a_dkeeps 0) v_dusk, wR dT a_dpicks v_dpicks, wR dT a_dkeeps v_dkeeps, wRm dT v_fam.1 [] a_fam v_fam.2.2, wP dT a_pairs v_pairs]) 5 0 g20 List.not_mem_nil rfl rfl ?_
            refine wa_ws (ws' := [wH dT a h_tape h_reader (a_friends 0) (a_dusk 0) (a_fam 0 0) h_coming h_acts h_seen (a_pairs 0) h_trials h_imageNow h_imageActs h_imageSeen v, wF dT a_friends v_friends, wD dT a_dusk (a_dpicks 0) (a_dkeeps 0) v_dusk, wR dT a_dpicks v_dpicks, wR dT a_dkeeps v_dkeeps, wRw dT v_fam.1 a_fam v_fam.2.2, wP dT a_pairs v_pairs]) rfl ?_
            cases hf
            exact wa_iret C dX11_person_104 rfl rfl
          · replace hf := ite_f hf c19
            by_cases c23 : p1 = 5
            · replace hf := ite_t hf c23
              refine wa_ts C 5 (99) 105 dX11_person_6 c23 (by decide) (by decide) rfl rfl ?_
              refine wa_aload_n C 0 106 dX11_person_105 rfl rfl ?_
              refine wa_get C 109 0 0 7 dX11_person_106 rfl iX11 q364 rfl (Nat.le_of_ble_eq_true rfl) rfl rfl rfl ?_
              refine wa_iload_n C 1 110 dX11_person_109 rfl rfl ?_
              obtain ⟨g24, hf⟩ := grd_ex hf
              replace g24 := of_decide_eq_true g24
              refine wa_openF 5 0 g24 List.not_mem_nil rfl ?_
              obtain ⟨q25, hq25, hf⟩ := bind_ex hf
              refine wa_callVi (b1 := 7) (q1 := 0) (ci := 10) (ws' := [wH dT a h_tape h_reader (a_friends 0) (a_dusk 0) (a_fam 0 0) h_coming h_acts h_seen (a_pairs 0) h_trials h_imageNow h_imageActs h_imageSeen v, wF dT a_friends v_friends, wD dT a_dusk (a_dpicks 0) (a_dkeeps 0) v_dusk, wR dT a_dpicks v_dpicks, wR dT a_dkeeps v_dkeeps, wRm dT v_fam.1 [0] a_fam v_fam.2.2, wP dT a_pairs v_pairs, wV dT (a_fam 0) (v_fam.2.2 0)]) (As := [.int p0]) C 113 dX11_person_110 rfl kv_X11_210 (c_X10_companions hq25) ⟨rfl, rfl⟩ ⟨Nat.le_of_ble_eq_true rfl, Nat.le_of_ble_eq_true rfl⟩ rfl rfl rfl [7] [0, 1, 2, 3, 4, 5, 6] [0, 1, 2, 3, 4, 5, 6, 7] rfl rfl rfl rfl (by decide) rfl rfl rfl rfl ⟨Nat.zero_le _, Nat.zero_le _⟩ (Nat.le_of_ble_eq_true rfl) ?_
              refine wa_closeR (ws := [wH dT a h_tape h_reader (a_friends 0) (a_dusk 0) (a_fam 0 0) h_coming h_acts h_seen (a_pairs 0) h_trials h_imageNow h_imageActs h_imageSeen v, wF dT a_friends v_friends, wD dT a_dusk (a_dpicks 0) (a_dkeeps 0) v_dusk, wR dT a_dpicks v_dpicks, wR dT a_dkeeps v_dkeeps, wRm dT v_fam.1 [0] a_fam v_fam.2.2, wP dT a_pairs v_pairs]) (ws' := [wH dT a h_tape h_reader (a_friends 0) (a_dusk 0) (a_fam 0 0) h_coming h_acts h_seen (a_pairs 0) h_trials h_imageNow h_imageActs h_imageSeen v, wF dT a_friends v_friends, wD dT a_dusk (a_dpicks 0) (a_dkeeps 0) v_dusk, wR dT a_dpicks v_dpicks, wR dT a_dkeeps v_dkeeps, wRm dT v_fam.1 [] a_fam v_fam.2.2, wP dT a_pairs v_pairs]) 5 0 g24 List.not_mem_nil rfl rfl ?_
              refine wa_ws (ws' := [wH dT a h_tape h_reader (a_friends 0) (a_dusk 0) (a_fam 0 0) h_coming h_acts h_seen (a_pairs 0) h_trials h_imageNow h_imageActs h_imageSeen v, wF dT a_friends v_friends, wD dT a_dusk (a_dpicks 0) (a_dkeeps 0) v_dusk, wR dT a_dpicks v_dpicks, wR dT a_dkeeps v_dkeeps, wRw dT v_fam.1 a_fam v_fam.2.2, wP dT a_pairs v_pairs]) rfl ?_
              cases hf
              exact wa_iret C dX11_person_113 rfl rfl
            · replace hf := ite_f hf c23
              by_cases c27 : p1 = 6
              · replace hf := ite_t hf c27
                refine wa_ts C 6 (108) 114 dX11_person_6 c27 (by decide) (by decide) rfl rfl ?_
                refine wa_aload_n C 0 115 dX11_person_114 rfl rfl ?_
                refine wa_get C 118 0 0 5 dX11_person_115 rfl iX11 q362 rfl (Nat.le_of_ble_eq_true rfl) rfl rfl rfl ?_
                refine wa_iload_n C 1 119 dX11_person_118 rfl rfl ?_
                obtain ⟨q28, hq28, hf⟩ := bind_ex hf
                refine wa_callVi (b1 := 1) (q1 := 0) (ci := 3) (ws' := [wH dT a h_tape h_reader (a_friends 0) (a_dusk 0) (a_fam 0 0) h_coming h_acts h_seen (a_pairs 0) h_trials h_imageNow h_imageActs h_imageSeen v, wF dT a_friends v_friends, wD dT a_dusk (a_dpicks 0) (a_dkeeps 0) v_dusk, wR dT a_dpicks v_dpicks, wR dT a_dkeeps v_dkeeps, wRw dT v_fam.1 a_fam v_fam.2.2, wP dT a_pairs v_pairs]) (As := [.int p0]) C 122 dX11_person_119 rfl kv_X11_213 (c_X3_of hq28) ⟨rfl, rfl⟩ ⟨Nat.le_of_ble_eq_true rfl, Nat.le_of_ble_eq_true rfl⟩ rfl rfl rfl [1] [0, 2, 3, 4, 5, 6] [0, 6, 1, 2, 3, 4, 5] rfl rfl rfl rfl (by decide) rfl rfl rfl rfl ⟨Nat.zero_le _, Nat.zero_le _⟩ (Nat.le_of_ble_eq_true rfl) ?_
                cases hf
                exact wa_iret C dX11_person_122 rfl rfl
              · replace hf := ite_f hf c27
                by_cases c30 : p1 = 7
                · replace hf := ite_t hf c30
                  refine wa_ts C 7 (117) 123 dX11_person_6 c30 (by decide) (by decide) rfl rfl ?_
                  refine wa_aload_n C 0 124 dX11_person_123 rfl rfl ?_
                  refine wa_get C 127 0 0 6 dX11_person_124 rfl iX11 q363 rfl (Nat.le_of_ble_eq_true rfl) rfl rfl rfl ?_
                  refine wa_aload_n C 0 128 dX11_person_127 rfl rfl ?_
                  refine wa_get C 131 0 0 7 dX11_person_128 rfl iX11 q364 rfl (Nat.le_of_ble_eq_true rfl) rfl rfl rfl ?_
                  refine wa_aload_n C 0 132 dX11_person_131 rfl rfl ?_
                  refine wa_get C 135 0 0 7 dX11_person_132 rfl iX11 q364 rfl (Nat.le_of_ble_eq_true rfl) rfl rfl rfl ?_
                  obtain ⟨g31, hf⟩ := grd_ex hf
                  refine wa_openF 5 0 (of_decide_eq_true g31) List.not_mem_nil rfl ?_
                  refine wa_get C 138 7 0 4 dX11_person_135 rfl iX10 q76 rfl (Nat.le_of_ble_eq_true rfl) rfl rfl rfl ?_
                  refine wa_closeR (ws := [wH dT a h_tape h_reader (a_friends 0) (a_dusk 0) (a_fam 0 0) h_coming h_acts h_seen (a_pairs 0) h_trials h_imageNow h_imageActs h_imageSeen v, wF dT a_friends v_friends, wD dT a_dusk (a_dpicks 0) (a_dkeeps 0) v_dusk, wR dT a_dpicks v_dpicks, wR dT a_dkeeps v_dkeeps, wRm dT v_fam.1 [0] a_fam v_fam.2.2, wP dT a_pairs v_pairs]) (ws' := [wH dT a h_tape h_reader (a_friends 0) (a_dusk 0) (a_fam 0 0) h_coming h_acts h_seen (a_pairs 0) h_trials h_imageNow h_imageActs h_imageSeen v, wF dT a_friends v_friends, wD dT a_dusk (a_dpicks 0) (a_dkeeps 0) v_dusk, wR dT a_dpicks v_dpicks, wR dT a_dkeeps v_dkeeps, wRw dT v_fam.1 a_fam v_fam.2.2, wP dT a_pairs v_pairs]) 5 0 (of_decide_eq_true g31) List.not_mem_nil rfl rfl ?_
                  refine wa_iload_n C 1 139 dX11_person_138 rfl rfl ?_
                  obtain ⟨g32, hf⟩ := grd_ex hf
                  obtain ⟨g33, hf⟩ := grd_ex hf
                  refine wa_openF 5 0 (of_decide_eq_true g32) List.not_mem_nil rfl ?_
                  refine wa_iald C 140 7 2 dX11_person_139 rfl rfl rfl (vi_in g33) ?_
                  refine wa_closeR (ws := [wH dT a h_tape h_reader (a_friends 0) (a_dusk 0) (a_fam 0 0) h_coming h_acts h_seen (a_pairs 0) h_trials h_imageNow h_imageActs h_imageSeen v, wF dT a_friends v_friends, wD dT a_dusk (a_dpicks 0) (a_dkeeps 0) v_dusk, wR dT a_dpicks v_dpicks, wR dT a_dkeeps v_dkeeps, wRm dT v_fam.1 [0] a_fam v_fam.2.2, wP dT a_pairs v_pairs]) (ws' := [wH dT a h_tape h_reader (a_friends 0) (a_dusk 0) (a_fam 0 0) h_coming h_acts h_seen (a_pairs 0) h_trials h_imageNow h_imageActs h_imageSeen v, wF dT a_friends v_friends, wD dT a_dusk (a_dpicks 0) (a_dkeeps 0) v_dusk, wR dT a_dpicks v_dpicks, wR dT a_dkeeps v_dkeeps, wRw dT v_fam.1 a_fam v_fam.2.2, wP dT a_pairs v_pairs]) 5 0 (of_decide_eq_true g32) List.not_mem_nil rfl rfl ?_
                  obtain ⟨g34, hf⟩ := grd_ex hf
                  replace g34 := of_decide_eq_true g34
                  refine wa_openF 5 0 g34 List.not_mem_nil rfl ?_
                  obtain ⟨q35, hq35, hf⟩ := bind_ex hf
                  refine wa_callVi (b1 := 2) (q1 := 0) (ci := 2) (ws' := [wH dT a h_tape h_reader (a_friends 0) (a_dusk 0) (a_fam 0 0) h_coming h_acts h_seen (a_pairs 0) h_trials h_imageNow h_imageActs h_imageSeen v, wF dT a_friends v_friends, wD dT a_dusk (a_dpicks 0) (a_dkeeps 0) q35.2.1, wR dT a_dpicks q35.2.2.1, wR dT a_dkeeps q35.2.2.2, wRm dT v_fam.1 [0] a_fam v_fam.2.2, wP dT a_pairs v_pairs, wV dT (a_fam 0) (v_fam.2.2 0)]) (As := [.ref (a_fam 0 0), .int ((v_fam.2.2 0).2 2 (p0).toNatClampNeg)]) C 143 dX11_person_140 rfl kv_X11_216 (c_X2_leaverOf hq35) ⟨rfl, rfl⟩ ⟨Nat.le_of_ble_eq_true rfl, Nat.le_of_ble_eq_true rfl⟩ rfl rfl rfl [2, 3, 4, 7] [0, 1, 5, 6] [0, 1, 4, 5, 6, 2, 3, 7] rfl rfl rfl rfl (by decide) rfl rfl rfl rfl ⟨Nat.zero_le _, Nat.zero_le _⟩ (Nat.le_of_ble_eq_true rfl) ?_
                  refine wa_closeR (ws := [wH dT a h_tape h_reader (a_friends 0) (a_dusk 0) (a_fam 0 0) h_coming h_acts h_seen (a_pairs 0) h_trials h_imageNow h_imageActs h_imageSeen v, wF dT a_friends v_friends, wD dT a_dusk (a_dpicks 0) (a_dkeeps 0) q35.2.1, wR dT a_dpicks q35.2.2.1, wR dT a_dkeeps q35.2.2.2, wRm dT v_fam.1 [0] a_fam v_fam.2.2, wP dT a_pairs v_pairs]) (ws' := [wH dT a h_tape h_reader (a_friends 0) (a_dusk 0) (a_fam 0 0) h_coming h_acts h_seen (a_pairs 0) h_trials h_imageNow h_imageActs h_imageSeen v, wF dT a_friends v_friends, wD dT a_dusk (a_dpicks 0) (a_dkeeps 0) q35.2.1, wR dT a_dpicks q35.2.2.1, wR dT a_dkeeps q35.2.2.2, wRm dT v_fam.1 [] a_fam v_fam.2.2, wP dT a_pairs v_pairs]) 5 0 g34 List.not_mem_nil rfl rfl ?_
                  refine wa_ws (ws' := [wH dT a h_tape h_reader (a_friends 0) (a_dusk 0) (a_fam 0 0) h_coming h_acts h_seen (a_pairs 0) h_trials h_imageNow h_imageActs h_imageSeen v, wF dT a_friends v_friends, wD dT a_dusk (a_dpicks 0) (a_dkeeps 0) q35.2.1, wR dT a_dpicks q35.2.2.1, wR dT a_dkeeps q35.2.2.2, wRw dT v_fam.1 a_fam v_fam.2.2, wP dT a_pairs v_pairs]) rfl ?_
                  refine wa_iload_n C 1 144 dX11_person_143 rfl rfl ?_
                  refine wa_icmp_ne C 151 147 dX11_person_144 rfl rfl (fun c37 => ?_) (fun c37 => ?_)
                  · replace hf := ite_f hf c37
                    refine wa_iconst (v := 0) C 152 dX11_person_151 rfl rfl ?_
                    cases hf
                    exact wa_iret C dX11_person_152 rfl rfl
                  · replace hf := ite_t hf c37
                    refine wa_iconst (v := 1) C 148 dX11_person_147 rfl rfl ?_
                    refine wa_goto C 152 dX11_person_148 rfl ?_
                    cases hf
                    exact wa_iret C dX11_person_152 rfl rfl
                · replace hf := ite_f hf c30
                  by_cases c38 : p1 = 8
                  · replace hf := ite_t hf c38
                    refine wa_ts C 8 (147) 153 dX11_person_6 c38 (by decide) (by decide) rfl rfl ?_
                    refine wa_aload_n C 0 154 dX11_person_153 rfl rfl ?_
                    refine wa_get C 157 0 0 11 dX11_person_154 rfl iX11 q368 rfl (Nat.le_of_ble_eq_true rfl) rfl rfl rfl ?_
                    refine wa_aload_n C 0 158 dX11_person_157 rfl rfl ?_
                    refine wa_get C 161 0 0 7 dX11_person_158 rfl iX11 q364 rfl (Nat.le_of_ble_eq_true rfl) rfl rfl rfl ?_
                    refine wa_iload_n C 1 162 dX11_person_161 rfl rfl ?_
                    obtain ⟨g39, hf⟩ := grd_ex hf
                    replace g39 := of_decide_eq_true g39
                    refine wa_openF 5 0 g39 List.not_mem_nil rfl ?_
                    obtain ⟨q40, hq40, hf⟩ := bind_ex hf
                    refine wa_callVi (b1 := 6) (q1 := 0) (ci := 5) (ws' := [wH dT a h_tape h_reader (a_friends 0) (a_dusk 0) (a_fam 0 0) h_coming h_acts h_seen (a_pairs 0) h_trials h_imageNow h_imageActs h_imageSeen v, wF dT a_friends v_friends, wD dT a_dusk (a_dpicks 0) (a_dkeeps 0) v_dusk, wR dT a_dpicks v_dpicks, wR dT a_dkeeps v_dkeeps, wRm dT v_fam.1 [0] a_fam v_fam.2.2, wP dT a_pairs q40.2, wV dT (a_fam 0) (v_fam.2.2 0)]) (As := [.ref (a_fam 0 0), .int p0]) C 165 dX11_person_162 rfl kv_X11_220 (c_X5_partnerOf hq40) ⟨rfl, rfl⟩ ⟨Nat.le_of_ble_eq_true rfl, Nat.le_of_ble_eq_true rfl⟩ rfl rfl rfl [6, 7] [0, 1, 2, 3, 4, 5] [0, 1, 2, 3, 4, 5, 6, 7] rfl rfl rfl rfl (by decide) rfl rfl rfl rfl ⟨Nat.zero_le _, Nat.zero_le _⟩ (Nat.le_of_ble_eq_true rfl) ?_
                    refine wa_closeR (ws := [wH dT a h_tape h_reader (a_friends 0) (a_dusk 0) (a_fam 0 0) h_coming h_acts h_seen (a_pairs 0) h_trials h_imageNow h_imageActs h_imageSeen v, wF dT a_friends v_friends, wD dT a_dusk (a_dpicks 0) (a_dkeeps 0) v_dusk, wR dT a_dpicks v_dpicks, wR dT a_dkeeps v_dkeeps, wRm dT v_fam.1 [0] a_fam v_fam.2.2, wP dT a_pairs q40.2]) (ws' := [wH dT a h_tape h_reader (a_friends 0) (a_dusk 0) (a_fam 0 0) h_coming h_acts h_seen (a_pairs 0) h_trials h_imageNow h_imageActs h_imageSeen v, wF dT a_friends v_friends, wD dT a_dusk (a_dpicks 0) (a_dkeeps 0) v_dusk, wR dT a_dpicks v_dpicks, wR dT a_dkeeps v_dkeeps, wRm dT v_fam.1 [] a_fam v_fam.2.2, wP dT a_pairs q40.2]) 5 0 g39 List.not_mem_nil rfl rfl ?_
                    refine wa_ws (ws' := [wH dT a h_tape h_reader (a_friends 0) (a_dusk 0) (a_fam 0 0) h_coming h_acts h_seen (a_pairs 0) h_trials h_imageNow h_imageActs h_imageSeen v, wF dT a_friends v_friends, wD dT a_dusk (a_dpicks 0) (a_dkeeps 0) v_dusk, wR dT a_dpicks v_dpicks, wR dT a_dkeeps v_dkeeps, wRw dT v_fam.1 a_fam v_fam.2.2, wP dT a_pairs q40.2]) rfl ?_
                    cases hf
                    exact wa_iret C dX11_person_165 rfl rfl
                  · replace hf := ite_f hf c38
                    refine wa_tsd C 166 dX11_person_6 (ts_out (0) 9 (nts_s (nts_s (nts_s (nts_s (nts_s (nts_s (nts_s (nts_s (nts_s nts_0 rfl c3) rfl c7) rfl c11) rfl c15) rfl c19) rfl c23) rfl c27) rfl c30) rfl c38)) rfl ?_
                    cases hf
theorem kv_X11_225 : KV RX11 225 yX11_needHouse cX11_needHouse 2 none 1 := KV.mk q1047 q1049 qs35 q1 q1050 ⟨by decide, by decide, by decide +kernel⟩
theorem kv_X11_231 : KV RX11 231 yX10_dwellers cX10_dwellers 4 (some .int) 1 := KV.mk q1052 q544 q545 q3 q546 ⟨by decide, by decide, by decide +kernel⟩
theorem kv_X11_234 : KV RX11 234 yX10_at cX10_at 4 (some .int) 2 := KV.mk q1053 q1054 q1055 q3 q1056 ⟨by decide, by decide, by decide +kernel⟩
theorem kv_X11_238 : KV RX11 238 yX10_ranksIn cX10_ranksIn 4 (some .int) 1 := KV.mk q1057 q1058 q1059 q3 q1060 ⟨by decide, by decide, by decide +kernel⟩
theorem kv_X11_241 : KV RX11 241 yX10_old cX10_old 2 (some .int) 1 := KV.mk q1061 q475 q476 q3 q477 ⟨by decide, by decide, by decide +kernel⟩
def f_X11_house (v : Ob) (v_dusk : Ob) (v_dpicks : Ob) (v_dkeeps : Ob) (v_fam : FS) (p0 : Int32) (p1 : Int32) : Option (Int32 × Ob × Ob × Ob) := (f_X11_needHouse v v_fam p0).bind (fun q1 => (if p1 = 0 then grd (decide (0 < v_fam.1)) (grd (decide (0 < v_fam.1)) (grd (vi p0 13) (some (((v_fam.2.2 0).2 6 (p0).toNatClampNeg), v_dusk, v_dpicks, v_dkeeps)))) else (if p1 = 1 then grd (decide (0 < v_fam.1)) ((f_X10_dwellers (v_fam.2.2 0) p0).bind (fun q9 => some (q9, v_dusk, v_dpicks, v_dkeeps))) else (if p1 = 2 then grd (decide (0 < v_fam.1)) ((f_X10_at (v_fam.2.2 0) p0 (0 : Int32)).bind (fun q13 => some (q13, v_dusk, v_dpicks, v_dkeeps))) else (if p1 = 3 then grd (decide (0 < v_fam.1)) (grd (decide (0 < v_fam.1)) (grd (vi p0 13) (grd (decide (0 < v_fam.1)) ((f_X10_at (v_fam.2.2 0) p0 (((v_fam.2.2 0).2 6 (p0).toNatClampNeg) - (1 : Int32))).bind (fun q20 => some (q20, v_dusk, v_dpicks, v_dkeeps)))))) else (if p1 = 4 then grd (decide (0 < v_fam.1)) ((f_X10_ranksIn (v_fam.2.2 0) p0).bind (fun q24 => some (q24, v_dusk, v_dpicks, v_dkeeps))) else (if p1 = 5 then grd (decide (0 < v_fam.1)) ((f_X2_leaverOf v_dusk v_dpicks v_dkeeps (v_fam.2.2 0) p0).bind (fun q28 => some (q28.1, q28.2.1, q28.2.2.1, q28.2.2.2))) else (if p1 = 6 then grd (decide (0 < v_fam.1)) ((f_X10_old (v_fam.2.2 0) p0).bind (fun q32 => some (q32, v_dusk, v_dpicks, v_dkeeps))) else none))))))))
set_option maxRecDepth 20000 in
theorem c_X11_house {l : Launch} {D : va_G} {dT : Nat → ClassId} {a : Nat → Nat} {a_dusk : Nat → Nat} {a_dpicks : Nat → Nat} {a_dkeeps : Nat → Nat} {a_fam : Nat → Nat → Nat} {h_tape : Nat} {h_reader : Nat} {h_friends : Nat} {h_coming : Nat} {h_acts : Nat} {h_seen : Nat} {h_pairs : Nat} {h_trials : Nat} {h_imageNow : Nat} {h_imageActs : Nat} {h_imageSeen : Nat} {v : Ob} {v_dusk : Ob} {v_dpicks : Ob} {v_dkeeps : Ob} {v_fam : FS} {p0 : Int32} {p1 : Int32} {res : Int32 × Ob × Ob × Ob} (hf : f_X11_house v v_dusk v_dpicks v_dkeeps v_fam p0 p1 = some res) : CTi l yX11_house cX11_house 3 (some .int) ({ frames := 4, cells := 0, slots := 0, locals := 99 } : Room) D dT [.ref (a 0), .int p0, .int p1] ([wH dT a h_tape h_reader h_friends (a_dusk 0) (a_fam 0 0) h_coming h_acts h_seen h_pairs h_trials h_imageNow h_imageActs h_imageSeen v, wD dT a_dusk (a_dpicks 0) (a_dkeeps 0) v_dusk, wR dT a_dpicks v_dpicks, wR dT a_dkeeps v_dkeeps, wRw dT v_fam.1 a_fam v_fam.2.2]) ([wH dT a h_tape h_reader h_friends (a_dusk 0) (a_fam 0 0) h_coming h_acts h_seen h_pairs h_trials h_imageNow h_imageActs h_imageSeen v, wD dT a_dusk (a_dpicks 0) (a_dkeeps 0) res.2.1, wR dT a_dpicks res.2.2.1, wR dT a_dkeeps res.2.2.2, wRw dT v_fam.1 a_fam v_fam.2.2]) res.1 := by
  refine CTi.of (by decide) (Nat.le_of_ble_eq_true rfl) rfl ?_
  intro p e s m args below meth c A C
  unfold f_X11_house at hf
  refine wa_aload_n C 0 1 dX11_house_0 rfl rfl ?_
  refine wa_iload_n C 1 2 dX11_house_1 rfl rfl ?_
  obtain ⟨q1, hq1, hf⟩ := bind_ex hf
  refine wa_callVv (b1 := 0) (q1 := 0) (ci := 11) (ws' := [wH dT a h_tape h_reader h_friends (a_dusk 0) (a_fam 0 0) h_coming h_acts h_seen h_pairs h_trials h_imageNow h_imageActs h_imageSeen v, wD dT a_dusk (a_dpicks 0) (a_dkeeps 0) v_dusk, wR dT a_dpicks v_dpicks, wR dT a_dkeeps v_dkeeps, wRw dT v_fam.1 a_fam v_fam.2.2]) (As := [.int p0]) C 5 dX11_house_2 rfl kv_X11_225 (c_X11_needHouse hq1) ⟨rfl, rfl⟩ ⟨Nat.le_of_ble_eq_true rfl, Nat.le_of_ble_eq_true rfl⟩ rfl rfl rfl [0, 4] [1, 2, 3] [3, 0, 1, 2, 4] rfl rfl rfl rfl (by decide) rfl rfl rfl rfl ⟨Nat.zero_le _, Nat.zero_le _⟩ (Nat.le_of_ble_eq_true rfl) ?_
  refine wa_iload_n C 2 6 dX11_house_5 rfl rfl ?_
  by_cases c3 : p1 = 0
  · replace hf := ite_t hf c3
    refine wa_ts C 0 (42) 48 dX11_house_6 c3 (by decide) (by decide) rfl rfl ?_
    refine wa_aload_n C 0 49 dX11_house_48 rfl rfl ?_
    refine wa_get C 52 0 0 7 dX11_house_49 rfl iX11 q364 rfl (Nat.le_of_ble_eq_true rfl) rfl rfl rfl ?_
    obtain ⟨g4, hf⟩ := grd_ex hf
    refine wa_openF 4 0 (of_decide_eq_true g4) List.not_mem_nil rfl ?_
    refine wa_get C 55 5 0 8 dX11_house_52 rfl iX10 q91 rfl (Nat.le_of_ble_eq_true rfl) rfl rfl rfl ?_
    refine wa_closeR (ws := [wH dT a h_tape h_reader h_friends (a_dusk 0) (a_fam 0 0) h_coming h_acts h_seen h_pairs h_trials h_imageNow h_imageActs h_imageSeen v, wD dT a_dusk (a_dpicks 0) (a_dkeeps 0) v_dusk, wR dT a_dpicks v_dpicks, wR dT a_dkeeps v_dkeeps, wRm dT v_fam.1 [0] a_fam v_fam.2.2]) (ws' := [wH dT a h_tape h_reader h_friends (a_dusk 0) (a_fam 0 0) h_coming h_acts h_seen h_pairs h_trials h_imageNow h_imageActs h_imageSeen v, wD dT a_dusk (a_dpicks 0) (a_dkeeps 0) v_dusk, wR dT a_dpicks v_dpicks, wR dT a_dkeeps v_dkeeps, wRw dT v_fam.1 a_fam v_fam.2.2]) 4 0 (of_decide_eq_true g4) List.not_mem_nil rfl rfl ?_
    refine wa_iload_n C 1 56 dX11_house_55 rfl rfl ?_
    obtain ⟨g5, hf⟩ := grd_ex hf
    obtain ⟨g6, hf⟩ := grd_ex hf
    refine wa_openF 4 0 (of_decide_eq_true g5) List.not_mem_nil rfl ?_
    refine wa_iald C 57 5 6 dX11_house_56 rfl rfl rfl (vi_in g6) ?_
    refine wa_closeR (ws := [wH dT a h_tape h_reader h_friends (a_dusk 0) (a_fam 0 0) h_coming h_acts h_seen h_pairs h_trials h_imageNow h_imageActs h_imageSeen v, wD dT a_dusk (a_dpicks 0) (a_dkeeps 0) v_dusk, wR dT a_dpicks v_dpicks, wR dT a_dkeeps v_dkeeps, wRm dT v_fam.1 [0] a_fam v_fam.2.2]) (ws' := [wH dT a h_tape h_reader h_friends (a_dusk 0) (a_fam 0 0) h_coming h_acts h_seen h_pairs h_trials h_imageNow h_imageActs h_imageSeen v, wD dT a_dusk (a_dpicks 0) (a_dkeeps 0) v_dusk, wR dT a_dpicks v_dpicks, wR dT a_dkeeps v_dkeeps, wRw dT v_fam.1 a_fam v_fam.2.2]) 4 0 (of_decide_eq_true g5) List.not_mem_nil rfl rfl ?_
    cases hf
    exact wa_iret C dX11_house_57 rfl rfl
  · replace hf := ite_f hf c3
    by_cases c7 : p1 = 1
    · replace hf := ite_t hf c7
      refine wa_ts C 1 (52) 58 dX11_house_6 c7 (by decide) (by decide) rfl rfl ?_
      refine wa_aload_n C 0 59 dX11_house_58 rfl rfl ?_
      refine wa_get C 62 0 0 7 dX11_house_59 rfl iX11 q364 rfl (Nat.le_of_ble_eq_true rfl) rfl rfl rfl ?_
      refine wa_iload_n C 1 63 dX11_house_62 rfl rfl ?_
      obtain ⟨g8, hf⟩ := grd_ex hf
      replace g8 := of_decide_eq_true g8
      refine wa_openF 4 0 g8 List.not_mem_nil rfl ?_
      obtain ⟨q9, hq9, hf⟩ := bind_ex hf
      refine wa_callVi (b1 := 5) (q1 := 0) (ci := 10) (ws' := [wH dT a h_tape h_reader h_friends (a_dusk 0) (a_fam 0 0) h_coming h_acts h_seen h_pairs h_trials h_imageNow h_imageActs h_imageSeen v, wD dT a_dusk (a_dpicks 0) (a_dkeeps 0) v_dusk, wR dT a_dpicks v_dpicks, wR dT a_dkeeps v_dkeeps, wRm dT v_fam.1 [0] a_fam v_fam.2.2, wV dT (a_fam 0) (v_fam.2.2 0)]) (As := [.int p0]) C 66 dX11_house_63 rfl kv_X11_231 (c_X10_dwellers hq9) ⟨rfl, rfl⟩ ⟨Nat.le_of_ble_eq_true rfl, Nat.le_of_ble_eq_true rfl⟩ rfl rfl rfl [5] [0, 1, 2, 3, 4] [0, 1, 2, 3, 4, 5] rfl rfl rfl rfl (by decide) rfl rfl rfl rfl ⟨Nat.zero_le _, Nat.zero_le _⟩ (Nat.le_of_ble_eq_true rfl) ?_
      refine wa_closeR (ws := [wH dT a h_tape h_reader h_friends (a_dusk 0) (a_fam 0 0) h_coming h_acts h_seen h_pairs h_trials h_imageNow h_imageActs h_imageSeen v, wD dT a_dusk (a_dpicks 0) (a_dkeeps 0) v_dusk, wR dT a_dpicks v_dpicks, wR dT a_dkeeps v_dkeeps, wRm dT v_fam.1 [0] a_fam v_fam.2.2]) (ws' := [wH dT a h_tape h_reader h_friends (a_dusk 0) (a_fam 0 0) h_coming h_acts h_seen h_pairs h_trials h_imageNow h_imageActs h_imageSeen v, wD dT a_dusk (a_dpicks 0) (a_dkeeps 0) v_dusk, wR dT a_dpicks v_dpicks, wR dT a_dkeeps v_dkeeps, wRm dT v_fam.1 [] a_fam v_fam.2.2]) 4 0 g8 List.not_mem_nil rfl rfl ?_
      refine wa_ws (ws' := [wH dT a h_tape h_reader h_friends (a_dusk 0) (a_fam 0 0) h_coming h_acts h_seen h_pairs h_trials h_imageNow h_imageActs h_imageSeen v, wD dT a_dusk (a_dpicks 0) (a_dkeeps 0) v_dusk, wR dT a_dpicks v_dpicks, wR dT a_dkeeps v_dkeeps, wRw dT v_fam.1 a_fam v_fam.2.2]) rfl ?_
      cases hf
      exact wa_iret C dX11_house_66 rfl rfl
    · replace hf := ite_f hf c7
      by_cases c11 : p1 = 2
      · replace hf := ite_t hf c11
        refine wa_ts C 2 (61) 67 dX11_house_6 c11 (by decide) (by decide) rfl rfl ?_
        refine wa_aload_n C 0 68 dX11_house_67 rfl rfl ?_
        refine wa_get C 71 0 0 7 dX11_house_68 rfl iX11 q364 rfl (Nat.le_of_ble_eq_true rfl) rfl rfl rfl ?_
        refine wa_iload_n C 1 72 dX11_house_71 rfl rfl ?_
        refine wa_iconst (v := 0) C 73 dX11_house_72 rfl rfl ?_
        obtain ⟨g12, hf⟩ := grd_ex hf
        replace g12 := of_decide_eq_true g12
        refine wa_openF 4 0 g12 List.not_mem_nil rfl ?_
        obtain ⟨q13, hq13, hf⟩ := bind_ex hf
        refine wa_callVi (b1 := 5) (q1 := 0) (ci := 10) (ws' := [wH dT a h_tape h_reader h_friends (a_dusk 0) (a_fam 0 0) h_coming h_acts h_seen h_pairs h_trials h_imageNow h_imageActs h_imageSeen v, wD dT a_dusk (a_dpicks 0) (a_dkeeps 0) v_dusk, wR dT a_dpicks v_dpicks, wR dT a_dkeeps v_dkeeps, wRm dT v_fam.1 [0] a_fam v_fam.2.2, wV dT (a_fam 0) (v_fam.2.2 0)]) (As := [.int p0, .int (0 : Int32)]) C 76 dX11_house_73 rfl kv_X11_234 (c_X10_at hq13) ⟨rfl, rfl⟩ ⟨Nat.le_of_ble_eq_true rfl, Nat.le_of_ble_eq_true rfl⟩ rfl rfl rfl [5] [0, 1, 2, 3, 4] [0, 1, 2, 3, 4, 5] rfl rfl rfl rfl (by decide) rfl rfl rfl rfl ⟨Nat.zero_le _, Nat.zero_le _⟩ (Nat.le_of_ble_eq_true rfl) ?_
        refine wa_closeR (ws := [wH dT a h_tape h_reader h_friends (a_dusk 0) (a_fam 0 0) h_coming h_acts h_seen h_pairs h_trials h_imageNow h_imageActs h_imageSeen v, wD dT a_dusk (a_dpicks 0) (a_dkeeps 0) v_dusk, wR dT a_dpicks v_dpicks, wR dT a_dkeeps v_dkeeps, wRm dT v_fam.1 [0] a_fam v_fam.2.2]) (ws' := [wH dT a h_tape h_reader h_friends (a_dusk 0) (a_fam 0 0) h_coming h_acts h_seen h_pairs h_trials h_imageNow h_imageActs h_imageSeen v, wD dT a_dusk (a_dpicks 0) (a_dkeeps 0) v_dusk, wR dT a_dpicks v_dpicks, wR dT a_dkeeps v_dkeeps, wRm dT v_fam.1 [] a_fam v_fam.2.2]) 4 0 g12 List.not_mem_nil rfl rfl ?_
        refine wa_ws (ws' := [wH dT a h_tape h_reader h_friends (a_dusk 0) (a_fam 0 0) h_coming h_acts h_seen h_pairs h_trials h_imageNow h_imageActs h_imageSeen v, wD dT a_dusk (a_dpicks 0) (a_dkeeps 0) v_dusk, wR dT a_dpicks v_dpicks, wR dT a_dkeeps v_dkeeps, wRw dT v_fam.1 a_fam v_fam.2.2]) rfl ?_
        cases hf
        exact wa_iret C dX11_house_76 rfl rfl
      · replace hf := ite_f hf c11
        by_cases c15 : p1 = 3
        · replace hf := ite_t hf c15
          refine wa_ts C 3 (71) 77 dX11_house_6 c15 (by decide) (by decide) rfl rfl ?_
          refine wa_aload_n C 0 78 dX11_house_77 rfl rfl ?_
          refine wa_get C 81 0 0 7 dX11_house_78 rfl iX11 q364 rfl (Nat.le_of_ble_eq_true rfl) rfl rfl rfl ?_
          refine wa_iload_n C 1 82 dX11_house_81 rfl rfl ?_
          refine wa_aload_n C 0 83 dX11_house_82 rfl rfl ?_
          refine wa_get C 86 0 0 7 dX11_house_83 rfl iX11 q364 rfl (Nat.le_of_ble_eq_true rfl) rfl rfl rfl ?_
          obtain ⟨g16, hf⟩ := grd_ex hf
          refine wa_openF 4 0 (of_decide_eq_true g16) List.not_mem_nil rfl ?_
          refine wa_get C 89 5 0 8 dX11_house_86 rfl iX10 q91 rfl (Nat.le_of_ble_eq_true rfl) rfl rfl rfl ?_
          refine wa_closeR (ws := [wH dT a h_tape h_reader h_friends (a_dusk 0) (a_fam 0 0) h_coming h_acts h_seen h_pairs h_trials h_imageNow h_imageActs h_imageSeen v, wD dT a_dusk (a_dpicks 0) (a_dkeeps 0) v_dusk, wR dT a_dpicks v_dpicks, wR dT a_dkeeps v_dkeeps, wRm dT v_fam.1 [0] a_fam v_fam.2.2]) (ws' := [wH dT a h_tape h_reader h_friends (a_dusk 0) (a_fam 0 0) h_coming h_acts h_seen h_pairs h_trials h_imageNow h_imageActs h_imageSeen v, wD dT a_dusk (a_dpicks 0) (a_dkeeps 0) v_dusk, wR dT a_dpicks v_dpicks, wR dT a_dkeeps v_dkeeps, wRw dT v_fam.1 a_fam v_fam.2.2]) 4 0 (of_decide_eq_true g16) List.not_mem_nil rfl rfl ?_
          refine wa_iload_n C 1 90 dX11_house_89 rfl rfl ?_
          obtain ⟨g17, hf⟩ := grd_ex hf
          obtain ⟨g18, hf⟩ := grd_ex hf
          refine wa_openF 4 0 (of_decide_eq_true g17) List.not_mem_nil rfl ?_
          refine wa_iald C 91 5 6 dX11_house_90 rfl rfl rfl (vi_in g18) ?_
          refine wa_closeR (ws := [wH dT a h_tape h_reader h_friends (a_dusk 0) (a_fam 0 0) h_coming h_acts h_seen h_pairs h_trials h_imageNow h_imageActs h_imageSeen v, wD dT a_dusk (a_dpicks 0) (a_dkeeps 0) v_dusk, wR dT a_dpicks v_dpicks, wR dT a_dkeeps v_dkeeps, wRm dT v_fam.1 [0] a_fam v_fam.2.2]) (ws' := [wH dT a h_tape h_reader h_friends (a_dusk 0) (a_fam 0 0) h_coming h_acts h_seen h_pairs h_trials h_imageNow h_imageActs h_imageSeen v, wD dT a_dusk (a_dpicks 0) (a_dkeeps 0) v_dusk, wR dT a_dpicks v_dpicks, wR dT a_dkeeps v_dkeeps, wRw dT v_fam.1 a_fam v_fam.2.2]) 4 0 (of_decide_eq_true g17) List.not_mem_nil rfl rfl ?_
          refine wa_iconst (v := 1) C 92 dX11_house_91 rfl rfl ?_
          refine wa_isub C 93 dX11_house_92 rfl ?_
          obtain ⟨g19, hf⟩ := grd_ex hf
          replace g19 := of_decide_eq_true g19
          refine wa_openF 4 0 g19 List.not_mem_nil rfl ?_
          obtain ⟨q20, hq20, hf⟩ := bind_ex hf
          refine wa_callVi (b1 := 5) (q1 := 0) (ci := 10) (ws' := [wH dT a h_tape h_reader h_friends (a_dusk 0) (a_fam 0 0) h_coming h_acts h_seen h_pairs h_trials h_imageNow h_imageActs h_imageSeen v, wD dT a_dusk (a_dpicks 0) (a_dkeeps 0) v_dusk, wR dT a_dpicks v_dpicks, wR dT a_dkeeps v_dkeeps, wRm dT v_fam.1 [0] a_fam v_fam.2.2, wV dT (a_fam 0) (v_fam.2.2 0)]) (As := [.int p0, .int (((v_fam.2.2 0).2 6 (p0).toNatClampNeg) - (1 : Int32))]) C 96 dX11_house_93 rfl kv_X11_234 (c_X10_at hq20) ⟨rfl, rfl⟩ ⟨Nat.le_of_ble_eq_true rfl, Nat.le_of_ble_eq_true rfl⟩ rfl rfl rfl [5] [0, 1, 2, 3, 4] [0, 1, 2, 3, 4, 5] rfl rfl rfl rfl (by decide) rfl rfl rfl rfl ⟨Nat.zero_le _, Nat.zero_le _⟩ (Nat.le_of_ble_eq_true rfl) ?_
          refine wa_closeR (ws := [wH dT a h_tape h_reader h_friends (a_dusk 0) (a_fam 0 0) h_coming h_acts h_seen h_pairs h_trials h_imageNow h_imageActs h_imageSeen v, wD dT a_dusk (a_dpicks 0) (a_dkeeps 0) v_dusk, wR dT a_dpicks v_dpicks, wR dT a_dkeeps v_dkeeps, wRm dT v_fam.1 [0] a_fam v_fam.2.2]) (ws' := [wH dT a h_tape h_reader h_friends (a_dusk 0) (a_fam 0 0) h_coming h_acts h_seen h_pairs h_trials h_imageNow h_imageActs h_imageSeen v, wD dT a_dusk (a_dpicks 0) (a_dkeeps 0) v_dusk, wR dT a_dpicks v_dpicks, wR dT a_dkeeps v_dkeeps, wRm dT v_fam.1 [] a_fam v_fam.2.2]) 4 0 g19 List.not_mem_nil rfl rfl ?_
          refine wa_ws (ws' := [wH dT a h_tape h_reader h_friends (a_dusk 0) (a_fam 0 0) h_coming h_acts h_seen h_pairs h_trials h_imageNow h_imageActs h_imageSeen v, wD dT a_dusk (a_dpicks 0) (a_dkeeps 0) v_dusk, wR dT a_dpicks v_dpicks, wR dT a_dkeeps v_dkeeps, wRw dT v_fam.1 a_fam v_fam.2.2]) rfl ?_
          cases hf
          exact wa_iret C dX11_house_96 rfl rfl
        · replace hf := ite_f hf c15
          by_cases c22 : p1 = 4
          · replace hf := ite_t hf c22
            refine wa_ts C 4 (91) 97 dX11_house_6 c22 (by decide) (by decide) rfl rfl ?_
            refine wa_aload_n C 0 98 dX11_house_97 rfl rfl ?_
            refine wa_get C 101 0 0 7 dX11_house_98 rfl iX11 q364 rfl (Nat.le_of_ble_eq_true rfl) rfl rfl rfl ?_
            refine wa_iload_n C 1 102 dX11_house_101 rfl rfl ?_
            obtain ⟨g23, hf⟩ := grd_ex hf
            replace g23 := of_decide_eq_true g23
            refine wa_openF 4 0 g23 List.not_mem_nil rfl ?_
            obtain ⟨q24, hq24, hf⟩ := bind_ex hf
            refine wa_callVi (b1 := 5) (q1 := 0) (ci := 10) (ws' := [wH dT a h_tape h_reader h_friends (a_dusk 0) (a_fam 0 0) h_coming h_acts h_seen h_pairs h_trials h_imageNow h_imageActs h_imageSeen v, wD dT a_dusk (a_dpicks 0) (a_dkeeps 0) v_dusk, wR dT a_dpicks v_dpicks, wR dT a_dkeeps v_dkeeps, wRm dT v_fam.1 [0] a_fam v_fam.2.2, wV dT (a_fam 0) (v_fam.2.2 0)]) (As := [.int p0]) C 105 dX11_house_102 rfl kv_X11_238 (c_X10_ranksIn hq24) ⟨rfl, rfl⟩ ⟨Nat.le_of_ble_eq_true rfl, Nat.le_of_ble_eq_true rfl⟩ rfl rfl rfl [5] [0, 1, 2, 3, 4] [0, 1, 2, 3, 4, 5] rfl rfl rfl rfl (by decide) rfl rfl rfl rfl ⟨Nat.zero_le _, Nat.zero_le _⟩ (Nat.le_of_ble_eq_true rfl) ?_
            refine wa_closeR (ws := [wH dT a h_tape h_reader h_friends (a_dusk 0) (a_fam 0 0) h_coming h_acts h_seen h_pairs h_trials h_imageNow h_imageActs h_imageSeen v, wD dT a_dusk (a_dpicks 0) (a_dkeeps 0) v_dusk, wR dT a_dpicks v_dpicks, wR dT a_dkeeps v_dkeeps, wRm dT v_fam.1 [0] a_fam v_fam.2.2]) (ws' := [wH dT a h_tape h_reader h_friends (a_dusk 0) (a_fam 0 0) h_coming h_acts h_seen h_pairs h_trials h_imageNow h_imageActs h_imageSeen v, wD dT a_dusk (a_dpicks 0) (a_dkeeps 0) v_dusk, wR dT a_dpicks v_dpicks, wR dT a_dkeeps v_dkeeps, wRm dT v_fam.1 [] a_fam v_fam.2.2]) 4 0 g23 List.not_mem_nil rfl rfl ?_
            refine wa_ws (ws' := [wH dT a h_tape h_reader h_friends (a_dusk 0) (a_fam 0 0) h_coming h_acts h_seen h_pairs h_trials h_imageNow h_imageActs h_imageSeen v, wD dT a_dusk (a_dpicks 0) (a_dkeeps 0) v_dusk, wR dT a_dpicks v_dpicks, wR dT a_dkeeps v_dkeeps, wRw dT v_fam.1 a_fam v_fam.2.2]) rfl ?_
            cases hf
            exact wa_iret C dX11_house_105 rfl rfl
          · replace hf := ite_f hf c22
            by_cases c26 : p1 = 5
            · replace hf := ite_t hf c26
              refine wa_ts C 5 (100) 106 dX11_house_6 c26 (by decide) (by decide) rfl rfl ?_
              refine wa_aload_n C 0 107 dX11_house_106 rfl rfl ?_
              refine wa_get C 110 0 0 6 dX11_house_107 rfl iX11 q363 rfl (Nat.le_of_ble_eq_true rfl) rfl rfl rfl ?_
              refine wa_aload_n C 0 111 dX11_house_110 rfl rfl ?_
              refine wa_get C 114 0 0 7 dX11_house_111 rfl iX11 q364 rfl (Nat.le_of_ble_eq_true rfl) rfl rfl rfl ?_
              refine wa_iload_n C 1 115 dX11_house_114 rfl rfl ?_
              obtain ⟨g27, hf⟩ := grd_ex hf
              replace g27 := of_decide_eq_true g27
              refine wa_openF 4 0 g27 List.not_mem_nil rfl ?_
              obtain ⟨q28, hq28, hf⟩ := bind_ex hf
              refine wa_callVi (b1 := 1) (q1 := 0) (ci := 2) (ws' := [wH dT a h_tape h_reader h_friends (a_dusk 0) (a_fam 0 0) h_coming h_acts h_seen h_pairs h_trials h_imageNow h_imageActs h_imageSeen v, wD dT a_dusk (a_dpicks 0) (a_dkeeps 0) q28.2.1, wR dT a_dpicks q28.2.2.1, wR dT a_dkeeps q28.2.2.2, wRm dT v_fam.1 [0] a_fam v_fam.2.2, wV dT (a_fam 0) (v_fam.2.2 0)]) (As := [.ref (a_fam 0 0), .int p0]) C 118 dX11_house_115 rfl kv_X11_216 (c_X2_leaverOf hq28) ⟨rfl, rfl⟩ ⟨Nat.le_of_ble_eq_true rfl, Nat.le_of_ble_eq_true rfl⟩ rfl rfl rfl [1, 2, 3, 5] [0, 4] [0, 2, 3, 4, 1, 5] rfl rfl rfl rfl (by decide) rfl rfl rfl rfl ⟨Nat.zero_le _, Nat.zero_le _⟩ (Nat.le_of_ble_eq_true rfl) ?_
              refine wa_closeR (ws := [wH dT a h_tape h_reader h_friends (a_dusk 0) (a_fam 0 0) h_coming h_acts h_seen h_pairs h_trials h_imageNow h_imageActs h_imageSeen v, wD dT a_dusk (a_dpicks 0) (a_dkeeps 0) q28.2.1, wR dT a_dpicks q28.2.2.1, wR dT a_dkeeps q28.2.2.2, wRm dT v_fam.1 [0] a_fam v_fam.2.2]) (ws' := [wH dT a h_tape h_reader h_friends (a_dusk 0) (a_fam 0 0) h_coming h_acts h_seen h_pairs h_trials h_imageNow h_imageActs h_imageSeen v, wD dT a_dusk (a_dpicks 0) (a_dkeeps 0) q28.2.1, wR dT a_dpicks q28.2.2.1, wR dT a_dkeeps q28.2.2.2, wRm dT v_fam.1 [] a_fam v_fam.2.2]) 4 0 g27 List.not_mem_nil rfl rfl ?_
              refine wa_ws (ws' := [wH dT a h_tape h_reader h_friends (a_dusk 0) (a_fam 0 0) h_coming h_acts h_seen h_pairs h_trials h_imageNow h_imageActs h_imageSeen v, wD dT a_dusk (a_dpicks 0) (a_dkeeps 0) q28.2.1, wR dT a_dpicks q28.2.2.1, wR dT a_dkeeps q28.2.2.2, wRw dT v_fam.1 a_fam v_fam.2.2]) rfl ?_
              cases hf
              exact wa_iret C dX11_house_118 rfl rfl
            · replace hf := ite_f hf c26
              by_cases c30 : p1 = 6
              · replace hf := ite_t hf c30
                refine wa_ts C 6 (113) 119 dX11_house_6 c30 (by decide) (by decide) rfl rfl ?_
                refine wa_aload_n C 0 120 dX11_house_119 rfl rfl ?_
                refine wa_get C 123 0 0 7 dX11_house_120 rfl iX11 q364 rfl (Nat.le_of_ble_eq_true rfl) rfl rfl rfl ?_
                refine wa_iload_n C 1 124 dX11_house_123 rfl rfl ?_
                obtain ⟨g31, hf⟩ := grd_ex hf
                replace g31 := of_decide_eq_true g31
                refine wa_openF 4 0 g31 List.not_mem_nil rfl ?_
                obtain ⟨q32, hq32, hf⟩ := bind_ex hf
                refine wa_callVi (b1 := 5) (q1 := 0) (ci := 10) (ws' := [wH dT a h_tape h_reader h_friends (a_dusk 0) (a_fam 0 0) h_coming h_acts h_seen h_pairs h_trials h_imageNow h_imageActs h_imageSeen v, wD dT a_dusk (a_dpicks 0) (a_dkeeps 0) v_dusk, wR dT a_dpicks v_dpicks, wR dT a_dkeeps v_dkeeps, wRm dT v_fam.1 [0] a_fam v_fam.2.2, wV dT (a_fam 0) (v_fam.2.2 0)]) (As := [.int p0]) C 127 dX11_house_124 rfl kv_X11_241 (c_X10_old hq32) ⟨rfl, rfl⟩ ⟨Nat.le_of_ble_eq_true rfl, Nat.le_of_ble_eq_true rfl⟩ rfl rfl rfl [5] [0, 1, 2, 3, 4] [0, 1, 2, 3, 4, 5] rfl rfl rfl rfl (by decide) rfl rfl rfl rfl ⟨Nat.zero_le _, Nat.zero_le _⟩ (Nat.le_of_ble_eq_true rfl) ?_
                refine wa_closeR (ws := [wH dT a h_tape h_reader h_friends (a_dusk 0) (a_fam 0 0) h_coming h_acts h_seen h_pairs h_trials h_imageNow h_imageActs h_imageSeen v, wD dT a_dusk (a_dpicks 0) (a_dkeeps 0) v_dusk, wR dT a_dpicks v_dpicks, wR dT a_dkeeps v_dkeeps, wRm dT v_fam.1 [0] a_fam v_fam.2.2]) (ws' := [wH dT a h_tape h_reader h_friends (a_dusk 0) (a_fam 0 0) h_coming h_acts h_seen h_pairs h_trials h_imageNow h_imageActs h_imageSeen v, wD dT a_dusk (a_dpicks 0) (a_dkeeps 0) v_dusk, wR dT a_dpicks v_dpicks, wR dT a_dkeeps v_dkeeps, wRm dT v_fam.1 [] a_fam v_fam.2.2]) 4 0 g31 List.not_mem_nil rfl rfl ?_
                refine wa_ws (ws' := [wH dT a h_tape h_reader h_friends (a_dusk 0) (a_fam 0 0) h_coming h_acts h_seen h_pairs h_trials h_imageNow h_imageActs h_imageSeen v, wD dT a_dusk (a_dpicks 0) (a_dkeeps 0) v_dusk, wR dT a_dpicks v_dpicks, wR dT a_dkeeps v_dkeeps, wRw dT v_fam.1 a_fam v_fam.2.2]) rfl ?_
                cases hf
                exact wa_iret C dX11_house_127 rfl rfl
              · replace hf := ite_f hf c30
                refine wa_tsd C 128 dX11_house_6 (ts_out (0) 7 (nts_s (nts_s (nts_s (nts_s (nts_s (nts_s (nts_s nts_0 rfl c3) rfl c7) rfl c11) rfl c15) rfl c22) rfl c26) rfl c30)) rfl ?_
                cases hf
theorem kv_X11_246 : KV RX11 246 yX11_refuse cX11_refuse 2 (some .int) 1 := KV.mk q425 q427 qs1 q1 q428 ⟨by decide, by decide, by decide +kernel⟩
theorem kv_X11_249 : KV RX11 249 yX0_keep cX0_keep 2 none 1 := KV.mk q429 q430 q431 q9 q432 ⟨by decide, by decide, by decide +kernel⟩
theorem kv_X11_252 : KV RX11 252 yX1_behind cX1_behind 4 (some (.object "NewHouses$Village")) 1 := KV.mk q449 q450 q451 q7 q452 ⟨by decide, by decide, by decide +kernel⟩
def f_X11_evenings_J26 (B6 : Nat) (B8 : Nat) (z5 : Ob) (z0 : Ob) (z1 : CS) (z2 : Ob) (z3 : Ob) (z4 : Ob) (z6 : FS) (z7 : Ob) (z8 : FS) : Option (Int32 × Ob × CS × Ob × Ob × Ob × FS × Ob × FS) := (f_X11_refuse z0 (1 : Int32)).bind (fun q2 => some (q2.1, q2.2, z1, z2, z3, z4, z6, z7, z8))
def f_X11_evenings (v : Ob) (v_coming : CS) (v_dusk : Ob) (v_dpicks : Ob) (v_dkeeps : Ob) (v_known : Ob) (v_fam : FS) (v_acts : Ob) (v_actsfam : FS) (B6 : Nat) (B8 : Nat) (p0 : Int32) : Option (Int32 × Ob × CS × Ob × Ob × Ob × FS × Ob × FS) := (if p0 < (1 : Int32) then f_X11_evenings_J26 B6 B8 v_known v v_coming v_dusk v_dpicks v_dkeeps v_fam v_acts v_actsfam else (if (20 : Int32) < p0 then f_X11_evenings_J26 B6 B8 v_known v v_coming v_dusk v_dpicks v_dkeeps v_fam v_acts v_actsfam else grd (decide (0 < v_fam.1)) ((if (((v_fam.2.2 0).1 2) + p0) ≤ (9999 : Int32) then grd (decide (0 < v_fam.1)) ((f_X0_keep v_acts v_actsfam (v_fam.2.2 0) B8).bind (fun q8 => grd (decide (v_actsfam.1 ≤ q8.2.1 ∧ q8.2.1 ≤ B8)) ((f_X1_behind v_coming v_dusk v_dpicks v_dkeeps v_known v_fam (max v_fam.1 ((p0).toNatClampNeg + 1)) p0).bind (fun q11 => grd (decide (v_fam.1 ≤ q11.2.2.2.2.2.1 ∧ q11.2.2.2.2.2.1 = (max v_fam.1 ((p0).toNatClampNeg + 1)) ∧ (max v_fam.1 ((p0).toNatClampNeg + 1)) ≤ B6 ∧ 0 < v_fam.1)) (grd (decide (0 < q11.2.2.2.2.2.1)) (grd (decide (q11.1 < q11.2.2.2.2.2.1 ∧ q11.1 ≠ 0)) ((f_X10_copyFrom (q11.2.2.2.2.2.2.2 0) (q11.2.2.2.2.2.2.2 q11.1)).bind (fun q16 => bnd ((q11.2.2.2.2.2.1, q11.2.2.2.2.2.2.1, sV q11.2.2.2.2.2.2.2 0 q16) : FS) (fun y18 => (f_X1_changed q11.2.1 q11.2.2.1 q11.2.2.2.1 q11.2.2.2.2.1 v_known y18).bind (fun q19 => grd (decide (0 < y18.1)) (some (((y18.2.2 0).1 2), v, q19, q11.2.2.1, q11.2.2.2.1, q11.2.2.2.2.1, y18, q8.1, q8.2)))))))))))) else f_X11_evenings_J26 B6 B8 v_known v v_coming v_dusk v_dpicks v_dkeeps v_fam v_acts v_actsfam))))
set_option maxRecDepth 20000 in
theorem w_X11_evenings_J26 {p : Program} {l : Launch} {e : Env} {s : State} {m : MethodId} {args : Array Value} {below : List Frame} {meth : Method} {c : Code} {D : va_G} {A : Nat → Prop} {dT : Nat → ClassId} {a : Nat → Nat} {a_coming : Nat → Nat} {a_dusk : Nat → Nat} {a_dpicks : Nat → Nat} {a_dkeeps : Nat → Nat} {a_known : Nat → Nat} {a_acts : Nat → Nat} {h_tape : Nat} {h_reader : Nat} {h_friends : Nat} {h_seen : Nat} {h_pairs : Nat} {h_trials : Nat} {h_imageNow : Nat} {h_imageActs : Nat} {h_imageSeen : Nat} {m6 B6 : Nat} {r6 : Nat → Nat → Nat} {m8 B8 : Nat} {r8 : Nat → Nat → Nat} {res : Int32 × Ob × CS × Ob × Ob × Ob × FS × Ob × FS} {z5 : Ob} (C : Cx p s m args meth c cX11_evenings 2 RX11 (some .int) D A dT) : ∀ (z0 : Ob) (z1 : CS) (z2 : Ob) (z3 : Ob) (z4 : Ob) (z6 : FS) (z7 : Ob) (z8 : FS) (rr6 : Nat → Nat → Nat) (rr8 : Nat → Nat → Nat), m6 ≤ z6.1 → z6.1 - m6 ≤ B6 - m6 → (∀ k, k < m6 → rr6 k = r6 k) → m8 ≤ z8.1 → z8.1 - m8 ≤ B8 - m8 → (∀ k, k < m8 → rr8 k = r8 k) → f_X11_evenings_J26 B6 B8 z5 z0 z1 z2 z3 z4 z6 z7 z8 = some res → WA p l e ({ frames := 7, cells := 8 * ((B6 - m6) + (B8 - m8)), slots := 96 * ((B6 - m6) + (B8 - m8)), locals := 153 } : Room) s m args below meth c (MQ below (va_Qi (fun r9 u => r9 = res.1 ∧ (fun u : (Nat → Nat → Nat) × (Nat → Nat → Nat) => (∀ k, k < m6 → u.1 k = r6 k) ∧ (∀ k, k < m8 → u.2 k = r8 k)) u) (fun u t => WB D dT A ((fun u : (Nat → Nat → Nat) × (Nat → Nat → Nat) => [wH dT a h_tape h_reader h_friends (a_dusk 0) (u.1 0 0) (a_coming 0) (a_acts 0) h_seen h_pairs h_trials h_imageNow h_imageActs h_imageSeen res.2.1, wC dT a_coming (a_dusk 0) (u.1 0 0) (a_known 0) (pim u.1 res.2.2.2.2.2.2.1.2.1) res.2.2.1, wD dT a_dusk (a_dpicks 0) (a_dkeeps 0) res.2.2.2.1, wR dT a_dpicks res.2.2.2.2.1, wR dT a_dkeeps res.2.2.2.2.2.1, wK dT a_known z5, wRw dT res.2.2.2.2.2.2.1.1 u.1 res.2.2.2.2.2.2.1.2.2, wA dT a_acts (pim u.2 res.2.2.2.2.2.2.2.2.2.1) res.2.2.2.2.2.2.2.1, wRw dT res.2.2.2.2.2.2.2.2.1 u.2 res.2.2.2.2.2.2.2.2.2.2]) u) t) A) args s (8 * ((B6 - m6) + (B8 - m8))) (96 * ((B6 - m6) + (B8 - m8))) A) D A (8 * ((z6.1 - m6) + (z8.1 - m8))) (96 * ((z6.1 - m6) + (z8.1 - m8))) 2 26 ([wH dT a h_tape h_reader h_friends (a_dusk 0) (rr6 0 0) (a_coming 0) (a_acts 0) h_seen h_pairs h_trials h_imageNow h_imageActs h_imageSeen z0, wC dT a_coming (a_dusk 0) (rr6 0 0) (a_known 0) (pim rr6 z6.2.1) z1, wD dT a_dusk (a_dpicks 0) (a_dkeeps 0) z2, wR dT a_dpicks z3, wR dT a_dkeeps z4, wK dT a_known z5, wRw dT z6.1 rr6 z6.2.2, wA dT a_acts (pim rr8 z8.2.1) z7, wRw dT z8.1 rr8 z8.2.2]) [(0, .ref (a 0))] [] := by
  intro z0 z1 z2 z3 z4 z6 z7 z8 rr6 rr8 hm6 hb6 hg6 hm8 hb8 hg8 hf
  unfold f_X11_evenings_J26 at hf
  refine wa_aload_n C 0 27 dX11_evenings_26 rfl rfl ?_
  refine wa_iconst (v := 1) C 28 dX11_evenings_27 rfl rfl ?_
  obtain ⟨q2, hq2, hf⟩ := bind_ex hf
  refine wa_callVi (b1 := 0) (q1 := 0) (ci := 11) (ws' := [wH dT a h_tape h_reader h_friends (a_dusk 0) (rr6 0 0) (a_coming 0) (a_acts 0) h_seen h_pairs h_trials h_imageNow h_imageActs h_imageSeen q2.2, wC dT a_coming (a_dusk 0) (rr6 0 0) (a_known 0) (pim rr6 z6.2.1) z1, wD dT a_dusk (a_dpicks 0) (a_dkeeps 0) z2, wR dT a_dpicks z3, wR dT a_dkeeps z4, wK dT a_known z5, wRw dT z6.1 rr6 z6.2.2, wA dT a_acts (pim rr8 z8.2.1) z7, wRw dT z8.1 rr8 z8.2.2]) (As := [.int (1 : Int32)]) C 31 dX11_evenings_28 rfl kv_X11_246 (c_X11_refuse hq2) ⟨rfl, rfl⟩ ⟨Nat.le_of_ble_eq_true rfl, Nat.le_of_ble_eq_true rfl⟩ rfl rfl rfl [0] [1, 2, 3, 4, 5, 6, 7, 8] [8, 0, 1, 2, 3, 4, 5, 6, 7] rfl rfl rfl rfl (by decide) rfl rfl rfl rfl ⟨by show (8 * ((z6.1 - m6) + (z8.1 - m8))) ≤ 8 * ((B6 - m6) + (B8 - m8)); omega, by show (96 * ((z6.1 - m6) + (z8.1 - m8))) ≤ 96 * ((B6 - m6) + (B8 - m8)); omega⟩ (Nat.le_of_ble_eq_true rfl) ?_
  cases hf
  exact wa_irm C (rr6, rr8) dX11_evenings_31 ⟨hg6, hg8⟩ rfl rfl (by show (8 * ((z6.1 - m6) + (z8.1 - m8))) ≤ 8 * ((B6 - m6) + (B8 - m8)); omega) (by show (96 * ((z6.1 - m6) + (z8.1 - m8))) ≤ 96 * ((B6 - m6) + (B8 - m8)); omega)
set_option maxRecDepth 20000 in
theorem c_X11_evenings {l : Launch} {D : va_G} {dT : Nat → ClassId} {a : Nat → Nat} {a_coming : Nat → Nat} {a_dusk : Nat → Nat} {a_dpicks : Nat → Nat} {a_dkeeps : Nat → Nat} {a_known : Nat → Nat} {a_fam : Nat → Nat → Nat} {a_acts : Nat → Nat} {a_actsfam : Nat → Nat → Nat} {h_tape : Nat} {h_reader : Nat} {h_friends : Nat} {h_seen : Nat} {h_pairs : Nat} {h_trials : Nat} {h_imageNow : Nat} {h_imageActs : Nat} {h_imageSeen : Nat} {v : Ob} {v_coming : CS} {v_dusk : Ob} {v_dpicks : Ob} {v_dkeeps : Ob} {v_known : Ob} {v_fam : FS} {v_acts : Ob} {v_actsfam : FS} {B6 : Nat} {B8 : Nat} {p0 : Int32} {res : Int32 × Ob × CS × Ob × Ob × Ob × FS × Ob × FS} (hf : f_X11_evenings v v_coming v_dusk v_dpicks v_dkeeps v_known v_fam v_acts v_actsfam B6 B8 p0 = some res) : CMi l yX11_evenings cX11_evenings 2 (some .int) ({ frames := 7, cells := 8 * ((B6 - v_fam.1) + (B8 - v_actsfam.1)), slots := 96 * ((B6 - v_fam.1) + (B8 - v_actsfam.1)), locals := 153 } : Room) D dT [.ref (a 0), .int p0] ([wH dT a h_tape h_reader h_friends (a_dusk 0) (a_fam 0 0) (a_coming 0) (a_acts 0) h_seen h_pairs h_trials h_imageNow h_imageActs h_imageSeen v, wC dT a_coming (a_dusk 0) (a_fam 0 0) (a_known 0) (pim a_fam v_fam.2.1) v_coming, wD dT a_dusk (a_dpicks 0) (a_dkeeps 0) v_dusk, wR dT a_dpicks v_dpicks, wR dT a_dkeeps v_dkeeps, wK dT a_known v_known, wRw dT v_fam.1 a_fam v_fam.2.2, wA dT a_acts (pim a_actsfam v_actsfam.2.1) v_acts, wRw dT v_actsfam.1 a_actsfam v_actsfam.2.2]) (fun u : (Nat → Nat → Nat) × (Nat → Nat → Nat) => (∀ k, k < v_fam.1 → u.1 k = a_fam k) ∧ (∀ k, k < v_actsfam.1 → u.2 k = a_actsfam k)) (fun u : (Nat → Nat → Nat) × (Nat → Nat → Nat) => [wH dT a h_tape h_reader h_friends (a_dusk 0) (u.1 0 0) (a_coming 0) (a_acts 0) h_seen h_pairs h_trials h_imageNow h_imageActs h_imageSeen res.2.1, wC dT a_coming (a_dusk 0) (u.1 0 0) (a_known 0) (pim u.1 res.2.2.2.2.2.2.1.2.1) res.2.2.1, wD dT a_dusk (a_dpicks 0) (a_dkeeps 0) res.2.2.2.1, wR dT a_dpicks res.2.2.2.2.1, wR dT a_dkeeps res.2.2.2.2.2.1, wK dT a_known v_known, wRw dT res.2.2.2.2.2.2.1.1 u.1 res.2.2.2.2.2.2.1.2.2, wA dT a_acts (pim u.2 res.2.2.2.2.2.2.2.2.2.1) res.2.2.2.2.2.2.2.1, wRw dT res.2.2.2.2.2.2.2.2.1 u.2 res.2.2.2.2.2.2.2.2.2.2]) res.1 (8 * ((B6 - v_fam.1) + (B8 - v_actsfam.1))) (96 * ((B6 - v_fam.1) + (B8 - v_actsfam.1))) := by
  refine CMi.of (by decide) (Nat.le_of_ble_eq_true rfl) rfl ?_
  intro p e s m args below meth c A C
  unfold f_X11_evenings at hf
  have hm6 : v_fam.1 ≤ v_fam.1 := Nat.le_refl _
  have hb6 : v_fam.1 - v_fam.1 ≤ B6 - v_fam.1 := by omega
  have hg6 : ∀ k, k < v_fam.1 → a_fam k = a_fam k := fun _ _ => rfl
  have hm8 : v_actsfam.1 ≤ v_actsfam.1 := Nat.le_refl _
  have hb8 : v_actsfam.1 - v_actsfam.1 ≤ B8 - v_actsfam.1 := by omega
  have hg8 : ∀ k, k < v_actsfam.1 → a_actsfam k = a_actsfam k := fun _ _ => rfl
  refine wa_widen (k := (8 * ((v_fam.1 - v_fam.1) + (v_actsfam.1 - v_actsfam.1)))) (n := (96 * ((v_fam.1 - v_fam.1) + (v_actsfam.1 - v_actsfam.1)))) (Nat.zero_le _) (Nat.zero_le _) ?_
  refine wa_iload_n C 1 1 dX11_evenings_0 rfl rfl ?_
  refine wa_iconst (v := 1) C 2 dX11_evenings_1 rfl rfl ?_
  refine wa_icmp_lt C 26 5 dX11_evenings_2 rfl rfl (fun c1 => ?_) (fun c1 => ?_)
  · replace hf := ite_t hf c1
    refine wa_lv (lv' := [(0, .ref (a 0))]) [0] rfl ?_
    exact w_X11_evenings_J26 C v v_coming v_dusk v_dpicks v_dkeeps v_fam v_acts v_actsfam a_fam a_actsfam hm6 hb6 hg6 hm8 hb8 hg8 hf
  · replace hf := ite_f hf c1
    refine wa_iload_n C 1 6 dX11_evenings_5 rfl rfl ?_
    refine wa_bipush (v := 20) C 8 dX11_evenings_6 rfl rfl ?_
    refine wa_icmp_gt C 26 11 dX11_evenings_8 rfl rfl (fun c4 => ?_) (fun c4 => ?_)
    · replace hf := ite_t hf c4
      refine wa_lv (lv' := [(0, .ref (a 0))]) [0] rfl ?_
      exact w_X11_evenings_J26 C v v_coming v_dusk v_dpicks v_dkeeps v_fam v_acts v_actsfam a_fam a_actsfam hm6 hb6 hg6 hm8 hb8 hg8 hf
    · replace hf := ite_f hf c4
      refine wa_aload_n C 0 12 dX11_evenings_11 rfl rfl ?_
      refine wa_get C 15 0 0 7 dX11_evenings_12 rfl iX11 q364 rfl (Nat.le_of_ble_eq_true rfl) rfl rfl rfl ?_
      obtain ⟨g5, hf⟩ := grd_ex hf
      refine wa_openF 6 0 (of_decide_eq_true g5) List.not_mem_nil rfl ?_
      refine wa_get C 18 9 0 2 dX11_evenings_15 rfl iX10 q63 rfl (Nat.le_of_ble_eq_true rfl) rfl rfl rfl ?_
      refine wa_closeR (ws := [wH dT a h_tape h_reader h_friends (a_dusk 0) (a_fam 0 0) (a_coming 0) (a_acts 0) h_seen h_pairs h_trials h_imageNow h_imageActs h_imageSeen v, wC dT a_coming (a_dusk 0) (a_fam 0 0) (a_known 0) (pim a_fam v_fam.2.1) v_coming, wD dT a_dusk (a_dpicks 0) (a_dkeeps 0) v_dusk, wR dT a_dpicks v_dpicks, wR dT a_dkeeps v_dkeeps, wK dT a_known v_known, wRm dT v_fam.1 [0] a_fam v_fam.2.2, wA dT a_acts (pim a_actsfam v_actsfam.2.1) v_acts, wRw dT v_actsfam.1 a_actsfam v_actsfam.2.2]) (ws' := [wH dT a h_tape h_reader h_friends (a_dusk 0) (a_fam 0 0) (a_coming 0) (a_acts 0) h_seen h_pairs h_trials h_imageNow h_imageActs h_imageSeen v, wC dT a_coming (a_dusk 0) (a_fam 0 0) (a_known 0) (pim a_fam v_fam.2.1) v_coming, wD dT a_dusk (a_dpicks 0) (a_dkeeps 0) v_dusk, wR dT a_dpicks v_dpicks, wR dT a_dkeeps v_dkeeps, wK dT a_known v_known, wRw dT v_fam.1 a_fam v_fam.2.2, wA dT a_acts (pim a_actsfam v_actsfam.2.1) v_acts, wRw dT v_actsfam.1 a_actsfam v_actsfam.2.2]) 6 0 (of_decide_eq_true g5) List.not_mem_nil rfl rfl ?_
      refine wa_iload_n C 1 19 dX11_evenings_18 rfl rfl ?_
      refine wa_iadd C 20 dX11_evenings_19 rfl ?_
      refine wa_sipush (v := 9999) C 23 dX11_evenings_20 rfl rfl ?_
      refine wa_icmp_le C 32 26 dX11_evenings_23 rfl rfl (fun c6 => ?_) (fun c6 => ?_)
      · replace hf := ite_t hf c6
        refine wa_aload_n C 0 33 dX11_evenings_32 rfl rfl ?_
        refine wa_get C 36 0 0 9 dX11_evenings_33 rfl iX11 q366 rfl (Nat.le_of_ble_eq_true rfl) rfl rfl rfl ?_
        refine wa_aload_n C 0 37 dX11_evenings_36 rfl rfl ?_
        refine wa_get C 40 0 0 7 dX11_evenings_37 rfl iX11 q364 rfl (Nat.le_of_ble_eq_true rfl) rfl rfl rfl ?_
        obtain ⟨g7, hf⟩ := grd_ex hf
        replace g7 := of_decide_eq_true g7
        refine wa_openF 6 0 g7 List.not_mem_nil rfl ?_
        obtain ⟨q8, hq8, hf⟩ := bind_ex hf
        obtain ⟨g9, hf⟩ := grd_ex hf
        replace g9 := of_decide_eq_true g9
        refine wa_callMv (b1 := 7) (q1 := 0) (ci := 0) (As := [.ref (a_fam 0 0)]) C (fun (ru10 : (Nat → Nat → Nat)) => [wH dT a h_tape h_reader h_friends (a_dusk 0) (a_fam 0 0) (a_coming 0) (a_acts 0) h_seen h_pairs h_trials h_imageNow h_imageActs h_imageSeen v, wC dT a_coming (a_dusk 0) (a_fam 0 0) (a_known 0) (pim a_fam v_fam.2.1) v_coming, wD dT a_dusk (a_dpicks 0) (a_dkeeps 0) v_dusk, wR dT a_dpicks v_dpicks, wR dT a_dkeeps v_dkeeps, wK dT a_known v_known, wRm dT v_fam.1 [0] a_fam v_fam.2.2, wA dT a_acts (pim ru10 q8.2.2.1) q8.1, wRw dT q8.2.1 ru10 q8.2.2.2, wV dT (a_fam 0) (v_fam.2.2 0)]) 43 dX11_evenings_40 rfl kv_X11_249 (c_X0_keep hq8) ⟨rfl, rfl⟩ ⟨Nat.le_of_ble_eq_true rfl, Nat.le_of_ble_eq_true rfl⟩ rfl rfl rfl [7, 8, 9] [0, 1, 2, 3, 4, 5, 6] [0, 1, 2, 3, 4, 5, 6, 7, 8, 9] rfl rfl rfl rfl (by decide) rfl (fun _ => rfl) rfl rfl ⟨by show (8 * ((v_fam.1 - v_fam.1) + (v_actsfam.1 - v_actsfam.1))) + 8 * ((B8 - v_actsfam.1)) ≤ 8 * ((B6 - v_fam.1) + (B8 - v_actsfam.1)); omega, by show (96 * ((v_fam.1 - v_fam.1) + (v_actsfam.1 - v_actsfam.1))) + 96 * ((B8 - v_actsfam.1)) ≤ 96 * ((B6 - v_fam.1) + (B8 - v_actsfam.1)); omega⟩ (Nat.le_of_ble_eq_true rfl) (fun ru10 hu => ?_)
        refine wa_widen (k := (8 * ((v_fam.1 - v_fam.1) + (B8 - v_actsfam.1)))) (n := (96 * ((v_fam.1 - v_fam.1) + (B8 - v_actsfam.1)))) (by omega) (by omega) ?_
        replace hg8 : ∀ k, k < v_actsfam.1 → ru10 k = a_actsfam k := fun k hk => (hu k (by omega)).trans (hg8 k hk)
        replace hm8 : v_actsfam.1 ≤ q8.2.1 := by omega
        replace hb8 : q8.2.1 - v_actsfam.1 ≤ B8 - v_actsfam.1 := by omega
        refine wa_closeR (ws := [wH dT a h_tape h_reader h_friends (a_dusk 0) (a_fam 0 0) (a_coming 0) (a_acts 0) h_seen h_pairs h_trials h_imageNow h_imageActs h_imageSeen v, wC dT a_coming (a_dusk 0) (a_fam 0 0) (a_known 0) (pim a_fam v_fam.2.1) v_coming, wD dT a_dusk (a_dpicks 0) (a_dkeeps 0) v_dusk, wR dT a_dpicks v_dpicks, wR dT a_dkeeps v_dkeeps, wK dT a_known v_known, wRm dT v_fam.1 [0] a_fam v_fam.2.2, wA dT a_acts (pim ru10 q8.2.2.1) q8.1, wRw dT q8.2.1 ru10 q8.2.2.2]) (ws' := [wH dT a h_tape h_reader h_friends (a_dusk 0) (a_fam 0 0) (a_coming 0) (a_acts 0) h_seen h_pairs h_trials h_imageNow h_imageActs h_imageSeen v, wC dT a_coming (a_dusk 0) (a_fam 0 0) (a_known 0) (pim a_fam v_fam.2.1) v_coming, wD dT a_dusk (a_dpicks 0) (a_dkeeps 0) v_dusk, wR dT a_dpicks v_dpicks, wR dT a_dkeeps v_dkeeps, wK dT a_known v_known, wRm dT v_fam.1 [] a_fam v_fam.2.2, wA dT a_acts (pim ru10 q8.2.2.1) q8.1, wRw dT q8.2.1 ru10 q8.2.2.2]) 6 0 g7 List.not_mem_nil rfl rfl ?_
        refine wa_ws (ws' := [wH dT a h_tape h_reader h_friends (a_dusk 0) (a_fam 0 0) (a_coming 0) (a_acts 0) h_seen h_pairs h_trials h_imageNow h_imageActs h_imageSeen v, wC dT a_coming (a_dusk 0) (a_fam 0 0) (a_known 0) (pim a_fam v_fam.2.1) v_coming, wD dT a_dusk (a_dpicks 0) (a_dkeeps 0) v_dusk, wR dT a_dpicks v_dpicks, wR dT a_dkeeps v_dkeeps, wK dT a_known v_known, wRw dT v_fam.1 a_fam v_fam.2.2, wA dT a_acts (pim ru10 q8.2.2.1) q8.1, wRw dT q8.2.1 ru10 q8.2.2.2]) rfl ?_
        refine wa_aload_n C 0 44 dX11_evenings_43 rfl rfl ?_
        refine wa_get C 47 0 0 7 dX11_evenings_44 rfl iX11 q364 rfl (Nat.le_of_ble_eq_true rfl) rfl rfl rfl ?_
        refine wa_aload_n C 0 48 dX11_evenings_47 rfl rfl ?_
        refine wa_get C 51 0 0 8 dX11_evenings_48 rfl iX11 q365 rfl (Nat.le_of_ble_eq_true rfl) rfl rfl rfl ?_
        refine wa_iload_n C 1 52 dX11_evenings_51 rfl rfl ?_
        obtain ⟨q11, hq11, hf⟩ := bind_ex hf
        obtain ⟨g12, hf⟩ := grd_ex hf
        replace g12 := of_decide_eq_true g12
        refine wa_callMr (b1 := 1) (q1 := 0) (ci := 1) (As := [.int p0]) C (fun (ru13 : (Nat → Nat → Nat)) => [wH dT a h_tape h_reader h_friends (a_dusk 0) (a_fam 0 0) (a_coming 0) (a_acts 0) h_seen h_pairs h_trials h_imageNow h_imageActs h_imageSeen v, wC dT a_coming (a_dusk 0) (ru13 0 0) (a_known 0) (pim ru13 q11.2.2.2.2.2.2.1) q11.2.1, wD dT a_dusk (a_dpicks 0) (a_dkeeps 0) q11.2.2.1, wR dT a_dpicks q11.2.2.2.1, wR dT a_dkeeps q11.2.2.2.2.1, wK dT a_known v_known, wRw dT q11.2.2.2.2.2.1 ru13 q11.2.2.2.2.2.2.2, wA dT a_acts (pim ru10 q8.2.2.1) q8.1, wRw dT q8.2.1 ru10 q8.2.2.2]) 55 dX11_evenings_52 rfl kv_X11_252 (c_X1_behind hq11) ⟨rfl, rfl⟩ ⟨Nat.le_of_ble_eq_true rfl, Nat.le_of_ble_eq_true rfl⟩ rfl rfl rfl [1, 2, 3, 4, 5, 6] [0, 7, 8] [0, 3, 4, 5, 6, 7, 8, 1, 2] rfl rfl rfl rfl (by decide) rfl (fun _ => rfl) rfl rfl ⟨by show (8 * ((v_fam.1 - v_fam.1) + (B8 - v_actsfam.1))) + 8 * (((max v_fam.1 ((p0).toNatClampNeg + 1)) - v_fam.1)) ≤ 8 * ((B6 - v_fam.1) + (B8 - v_actsfam.1)); omega, by show (96 * ((v_fam.1 - v_fam.1) + (B8 - v_actsfam.1))) + 96 * (((max v_fam.1 ((p0).toNatClampNeg + 1)) - v_fam.1)) ≤ 96 * ((B6 - v_fam.1) + (B8 - v_actsfam.1)); omega⟩ (Nat.le_of_ble_eq_true rfl) (fun ru13 hu => ?_)
        refine wa_ws (ws' := [wH dT a h_tape h_reader h_friends (a_dusk 0) (ru13 0 0) (a_coming 0) (a_acts 0) h_seen h_pairs h_trials h_imageNow h_imageActs h_imageSeen v, wC dT a_coming (a_dusk 0) (ru13 0 0) (a_known 0) (pim ru13 q11.2.2.2.2.2.2.1) q11.2.1, wD dT a_dusk (a_dpicks 0) (a_dkeeps 0) q11.2.2.1, wR dT a_dpicks q11.2.2.2.1, wR dT a_dkeeps q11.2.2.2.2.1, wK dT a_known v_known, wRw dT q11.2.2.2.2.2.1 ru13 q11.2.2.2.2.2.2.2, wA dT a_acts (pim ru10 q8.2.2.1) q8.1, wRw dT q8.2.1 ru10 q8.2.2.2]) (by rw [hu 0 (by omega)]) ?_
        refine wa_widen (k := (8 * ((q11.2.2.2.2.2.1 - v_fam.1) + (B8 - v_actsfam.1)))) (n := (96 * ((q11.2.2.2.2.2.1 - v_fam.1) + (B8 - v_actsfam.1)))) (by omega) (by omega) ?_
        refine wa_cast (lv' := [(0, .ref (a 0)), (1, .int p0)]) (st' := [.ref (ru13 q11.1 0), .ref (ru13 0 0)]) (by first | rfl | rw [hu 0 (by omega)]) (by first | rfl | rw [hu 0 (by omega)]) ?_
        replace hg6 : ∀ k, k < v_fam.1 → ru13 k = a_fam k := fun k hk => (hu k (by omega)).trans (hg6 k hk)
        replace hm6 : v_fam.1 ≤ q11.2.2.2.2.2.1 := by omega
        replace hb6 : q11.2.2.2.2.2.1 - v_fam.1 ≤ B6 - v_fam.1 := by omega
        obtain ⟨g14, hf⟩ := grd_ex hf
        replace g14 := of_decide_eq_true g14
        refine wa_openF 6 0 g14 List.not_mem_nil rfl ?_
        obtain ⟨g15, hf⟩ := grd_ex hf
        replace g15 := of_decide_eq_true g15
        refine wa_openF 6 q11.1 g15.1 (by simp [g15.2]) rfl ?_
        obtain ⟨q16, hq16, hf⟩ := bind_ex hf
        obtain ⟨y18, ey18, hf⟩ := bnd_ex hf
        refine wa_callVv (b1 := 9) (q1 := 0) (ci := 10) (ws' := [wH dT a h_tape h_reader h_friends (a_dusk 0) (ru13 0 0) (a_coming 0) (a_acts 0) h_seen h_pairs h_trials h_imageNow h_imageActs h_imageSeen v, wC dT a_coming (a_dusk 0) (ru13 0 0) (a_known 0) (pim ru13 q11.2.2.2.2.2.2.1) q11.2.1, wD dT a_dusk (a_dpicks 0) (a_dkeeps 0) q11.2.2.1, wR dT a_dpicks q11.2.2.2.1, wR dT a_dkeeps q11.2.2.2.2.1, wK dT a_known v_known, wRm dT q11.2.2.2.2.2.1 [q11.1, 0] ru13 q11.2.2.2.2.2.2.2, wA dT a_acts (pim ru10 q8.2.2.1) q8.1, wRw dT q8.2.1 ru10 q8.2.2.2, wV dT (ru13 0) q16, wV dT (ru13 q11.1) (q11.2.2.2.2.2.2.2 q11.1)]) (As := [.ref (ru13 q11.1 0)]) C 58 dX11_evenings_55 rfl kv_X11_126 (c_X10_copyFrom hq16) ⟨rfl, rfl⟩ ⟨Nat.le_of_ble_eq_true rfl, Nat.le_of_ble_eq_true rfl⟩ rfl rfl rfl [9, 10] [0, 1, 2, 3, 4, 5, 6, 7, 8] [0, 1, 2, 3, 4, 5, 6, 7, 8, 9, 10] rfl rfl rfl rfl (by decide) rfl rfl rfl rfl ⟨by show (8 * ((q11.2.2.2.2.2.1 - v_fam.1) + (B8 - v_actsfam.1))) ≤ 8 * ((B6 - v_fam.1) + (B8 - v_actsfam.1)); omega, by show (96 * ((q11.2.2.2.2.2.1 - v_fam.1) + (B8 - v_actsfam.1))) ≤ 96 * ((B6 - v_fam.1) + (B8 - v_actsfam.1)); omega⟩ (Nat.le_of_ble_eq_true rfl) ?_
        refine wa_closeR (ws := [wH dT a h_tape h_reader h_friends (a_dusk 0) (ru13 0 0) (a_coming 0) (a_acts 0) h_seen h_pairs h_trials h_imageNow h_imageActs h_imageSeen v, wC dT a_coming (a_dusk 0) (ru13 0 0) (a_known 0) (pim ru13 q11.2.2.2.2.2.2.1) q11.2.1, wD dT a_dusk (a_dpicks 0) (a_dkeeps 0) q11.2.2.1, wR dT a_dpicks q11.2.2.2.1, wR dT a_dkeeps q11.2.2.2.2.1, wK dT a_known v_known, wRm dT q11.2.2.2.2.2.1 [q11.1, 0] ru13 q11.2.2.2.2.2.2.2, wA dT a_acts (pim ru10 q8.2.2.1) q8.1, wRw dT q8.2.1 ru10 q8.2.2.2, wV dT (ru13 0) q16]) (ws' := [wH dT a h_tape h_reader h_friends (a_dusk 0) (ru13 0 0) (a_coming 0) (a_acts 0) h_seen h_pairs h_trials h_imageNow h_imageActs h_imageSeen v, wC dT a_coming (a_dusk 0) (ru13 0 0) (a_known 0) (pim ru13 q11.2.2.2.2.2.2.1) q11.2.1, wD dT a_dusk (a_dpicks 0) (a_dkeeps 0) q11.2.2.1, wR dT a_dpicks q11.2.2.2.1, wR dT a_dkeeps q11.2.2.2.2.1, wK dT a_known v_known, wRm dT q11.2.2.2.2.2.1 [0] ru13 q11.2.2.2.2.2.2.2, wA dT a_acts (pim ru10 q8.2.2.1) q8.1, wRw dT q8.2.1 ru10 q8.2.2.2, wV dT (ru13 0) q16]) 6 q11.1 g15.1 (by simp [g15.2]) rfl rfl ?_
        refine wa_closeF (ws := [wH dT a h_tape h_reader h_friends (a_dusk 0) (ru13 0 0) (a_coming 0) (a_acts 0) h_seen h_pairs h_trials h_imageNow h_imageActs h_imageSeen v, wC dT a_coming (a_dusk 0) (ru13 0 0) (a_known 0) (pim ru13 q11.2.2.2.2.2.2.1) q11.2.1, wD dT a_dusk (a_dpicks 0) (a_dkeeps 0) q11.2.2.1, wR dT a_dpicks q11.2.2.2.1, wR dT a_dkeeps q11.2.2.2.2.1, wK dT a_known v_known, wRm dT q11.2.2.2.2.2.1 [0] ru13 q11.2.2.2.2.2.2.2, wA dT a_acts (pim ru10 q8.2.2.1) q8.1, wRw dT q8.2.1 ru10 q8.2.2.2]) (ws' := [wH dT a h_tape h_reader h_friends (a_dusk 0) (ru13 0 0) (a_coming 0) (a_acts 0) h_seen h_pairs h_trials h_imageNow h_imageActs h_imageSeen v, wC dT a_coming (a_dusk 0) (ru13 0 0) (a_known 0) (pim ru13 q11.2.2.2.2.2.2.1) q11.2.1, wD dT a_dusk (a_dpicks 0) (a_dkeeps 0) q11.2.2.1, wR dT a_dpicks q11.2.2.2.1, wR dT a_dkeeps q11.2.2.2.2.1, wK dT a_known v_known, wRm dT q11.2.2.2.2.2.1 [] ru13 (sV q11.2.2.2.2.2.2.2 0 q16), wA dT a_acts (pim ru10 q8.2.2.1) q8.1, wRw dT q8.2.1 ru10 q8.2.2.2]) 6 0 g14 List.not_mem_nil rfl rfl rfl ?_
        refine wa_ws (ws' := [wH dT a h_tape h_reader h_friends (a_dusk 0) (ru13 0 0) (a_coming 0) (a_acts 0) h_seen h_pairs h_trials h_imageNow h_imageActs h_imageSeen v, wC dT a_coming (a_dusk 0) (ru13 0 0) (a_known 0) (pim ru13 y18.2.1) q11.2.1, wD dT a_dusk (a_dpicks 0) (a_dkeeps 0) q11.2.2.1, wR dT a_dpicks q11.2.2.2.1, wR dT a_dkeeps q11.2.2.2.2.1, wK dT a_known v_known, wRw dT y18.1 ru13 y18.2.2, wA dT a_acts (pim ru10 q8.2.2.1) q8.1, wRw dT q8.2.1 ru10 q8.2.2.2]) (by rw [ey18]) ?_
        have hc9 : y18.1 = q11.2.2.2.2.2.1 := (by first | omega | rw [ey18])
        replace hm6 : v_fam.1 ≤ y18.1 := by omega
        replace hb6 : y18.1 - v_fam.1 ≤ B6 - v_fam.1 := by omega
        refine wa_widen (k := (8 * ((y18.1 - v_fam.1) + (B8 - v_actsfam.1)))) (n := (96 * ((y18.1 - v_fam.1) + (B8 - v_actsfam.1)))) (by omega) (by omega) ?_
        refine wa_aload_n C 0 59 dX11_evenings_58 rfl rfl ?_
        refine wa_get C 62 0 0 8 dX11_evenings_59 rfl iX11 q365 rfl (Nat.le_of_ble_eq_true rfl) rfl rfl rfl ?_
        obtain ⟨q19, hq19, hf⟩ := bind_ex hf
        refine wa_callVv (b1 := 1) (q1 := 0) (ci := 1) (ws' := [wH dT a h_tape h_reader h_friends (a_dusk 0) (ru13 0 0) (a_coming 0) (a_acts 0) h_seen h_pairs h_trials h_imageNow h_imageActs h_imageSeen v, wC dT a_coming (a_dusk 0) (ru13 0 0) (a_known 0) (pim ru13 y18.2.1) q19, wD dT a_dusk (a_dpicks 0) (a_dkeeps 0) q11.2.2.1, wR dT a_dpicks q11.2.2.2.1, wR dT a_dkeeps q11.2.2.2.2.1, wK dT a_known v_known, wRw dT y18.1 ru13 y18.2.2, wA dT a_acts (pim ru10 q8.2.2.1) q8.1, wRw dT q8.2.1 ru10 q8.2.2.2]) (As := []) C 65 dX11_evenings_62 rfl kv_X11_148 (c_X1_changed hq19) ⟨rfl, rfl⟩ ⟨Nat.le_of_ble_eq_true rfl, Nat.le_of_ble_eq_true rfl⟩ rfl rfl rfl [1, 2, 3, 4, 5, 6] [0, 7, 8] [0, 3, 4, 5, 6, 7, 8, 1, 2] rfl rfl rfl rfl (by decide) rfl rfl rfl rfl ⟨by show (8 * ((y18.1 - v_fam.1) + (B8 - v_actsfam.1))) ≤ 8 * ((B6 - v_fam.1) + (B8 - v_actsfam.1)); omega, by show (96 * ((y18.1 - v_fam.1) + (B8 - v_actsfam.1))) ≤ 96 * ((B6 - v_fam.1) + (B8 - v_actsfam.1)); omega⟩ (Nat.le_of_ble_eq_true rfl) ?_
        refine wa_aload_n C 0 66 dX11_evenings_65 rfl rfl ?_
        refine wa_get C 69 0 0 7 dX11_evenings_66 rfl iX11 q364 rfl (Nat.le_of_ble_eq_true rfl) rfl rfl rfl ?_
        obtain ⟨g21, hf⟩ := grd_ex hf
        refine wa_openF 6 0 (of_decide_eq_true g21) List.not_mem_nil rfl ?_
        refine wa_get C 72 9 0 2 dX11_evenings_69 rfl iX10 q63 rfl (Nat.le_of_ble_eq_true rfl) rfl rfl rfl ?_
        refine wa_closeR (ws := [wH dT a h_tape h_reader h_friends (a_dusk 0) (ru13 0 0) (a_coming 0) (a_acts 0) h_seen h_pairs h_trials h_imageNow h_imageActs h_imageSeen v, wC dT a_coming (a_dusk 0) (ru13 0 0) (a_known 0) (pim ru13 y18.2.1) q19, wD dT a_dusk (a_dpicks 0) (a_dkeeps 0) q11.2.2.1, wR dT a_dpicks q11.2.2.2.1, wR dT a_dkeeps q11.2.2.2.2.1, wK dT a_known v_known, wRm dT y18.1 [0] ru13 y18.2.2, wA dT a_acts (pim ru10 q8.2.2.1) q8.1, wRw dT q8.2.1 ru10 q8.2.2.2]) (ws' := [wH dT a h_tape h_reader h_friends (a_dusk 0) (ru13 0 0) (a_coming 0) (a_acts 0) h_seen h_pairs h_trials h_imageNow h_imageActs h_imageSeen v, wC dT a_coming (a_dusk 0) (ru13 0 0) (a_known 0) (pim ru13 y18.2.1) q19, wD dT a_dusk (a_dpicks 0) (a_dkeeps 0) q11.2.2.1, wR dT a_dpicks q11.2.2.2.1, wR dT a_dkeeps q11.2.2.2.2.1, wK dT a_known v_known, wRw dT y18.1 ru13 y18.2.2, wA dT a_acts (pim ru10 q8.2.2.1) q8.1, wRw dT q8.2.1 ru10 q8.2.2.2]) 6 0 (of_decide_eq_true g21) List.not_mem_nil rfl rfl ?_
        cases hf
        exact wa_irm C (ru13, ru10) dX11_evenings_72 ⟨hg6, hg8⟩ rfl rfl (by show (8 * ((y18.1 - v_fam.1) + (B8 - v_actsfam.1))) ≤ 8 * ((B6 - v_fam.1) + (B8 - v_actsfam.1)); omega) (by show (96 * ((y18.1 - v_fam.1) + (B8 - v_actsfam.1))) ≤ 96 * ((B6 - v_fam.1) + (B8 - v_actsfam.1)); omega)
      · replace hf := ite_f hf c6
        refine wa_lv (lv' := [(0, .ref (a 0))]) [0] rfl ?_
        exact w_X11_evenings_J26 C v v_coming v_dusk v_dpicks v_dkeeps v_fam v_acts v_actsfam a_fam a_actsfam hm6 hb6 hg6 hm8 hb8 hg8 hf
theorem kv_X11_256 : KV RX11 256 yX10_moveTo cX10_moveTo 3 none 2 := KV.mk q1070 q1071 q1072 q3 q1073 ⟨by decide, by decide, by decide +kernel⟩
def f_X11_move (v : Ob) (v_coming : CS) (v_dusk : Ob) (v_dpicks : Ob) (v_dkeeps : Ob) (v_known : Ob) (v_fam : FS) (v_acts : Ob) (v_actsfam : FS) (B8 : Nat) (p0 : Int32) (p1 : Int32) : Option (Int32 × Ob × CS × FS × Ob × FS) := (f_X11_needPerson v v_fam p0).bind (fun q1 => (f_X11_needHouse v v_fam p1).bind (fun q3 => grd (decide (0 < v_fam.1)) (grd (decide (0 < v_fam.1)) (grd (vi p0 12) (bnd ((v_fam.2.2 0).2 2 (p0).toNatClampNeg) (fun x8 => (if x8 = p1 then (f_X11_refuse v (1 : Int32)).bind (fun q20 => some (q20.1, q20.2, v_coming, v_fam, v_acts, v_actsfam)) else grd (decide (0 < v_fam.1)) ((f_X0_keep v_acts v_actsfam (v_fam.2.2 0) B8).bind (fun q11 => grd (decide (v_actsfam.1 ≤ q11.2.1 ∧ q11.2.1 ≤ B8)) (grd (decide (0 < v_fam.1)) ((f_X10_moveTo (v_fam.2.2 0) p0 p1).bind (fun q15 => bnd ((v_fam.1, v_fam.2.1, sV v_fam.2.2 0 q15) : FS) (fun y17 => (f_X1_changed v_coming v_dusk v_dpicks v_dkeeps v_known y17).bind (fun q18 => some (x8, v, q18, y17, q11.1, q11.2)))))))))))))))
set_option maxRecDepth 20000 in
theorem c_X11_move {l : Launch} {D : va_G} {dT : Nat → ClassId} {a : Nat → Nat} {a_coming : Nat → Nat} {a_dusk : Nat → Nat} {a_dpicks : Nat → Nat} {a_dkeeps : Nat → Nat} {a_known : Nat → Nat} {a_fam : Nat → Nat → Nat} {a_acts : Nat → Nat} {a_actsfam : Nat → Nat → Nat} {h_tape : Nat} {h_reader : Nat} {h_friends : Nat} {h_seen : Nat} {h_pairs : Nat} {h_trials : Nat} {h_imageNow : Nat} {h_imageActs : Nat} {h_imageSeen : Nat} {v : Ob} {v_coming : CS} {v_dusk : Ob} {v_dpicks : Ob} {v_dkeeps : Ob} {v_known : Ob} {v_fam : FS} {v_acts : Ob} {v_actsfam : FS} {B8 : Nat} {p0 : Int32} {p1 : Int32} {res : Int32 × Ob × CS × FS × Ob × FS} (hf : f_X11_move v v_coming v_dusk v_dpicks v_dkeeps v_known v_fam v_acts v_actsfam B8 p0 p1 = some res) : CMi l yX11_move cX11_move 4 (some .int) ({ frames := 5, cells := 8 * ((B8 - v_actsfam.1)), slots := 96 * ((B8 - v_actsfam.1)), locals := 102 } : Room) D dT [.ref (a 0), .int p0, .int p1] ([wH dT a h_tape h_reader h_friends (a_dusk 0) (a_fam 0 0) (a_coming 0) (a_acts 0) h_seen h_pairs h_trials h_imageNow h_imageActs h_imageSeen v, wC dT a_coming (a_dusk 0) (a_fam 0 0) (a_known 0) (pim a_fam v_fam.2.1) v_coming, wD dT a_dusk (a_dpicks 0) (a_dkeeps 0) v_dusk, wR dT a_dpicks v_dpicks, wR dT a_dkeeps v_dkeeps, wK dT a_known v_known, wRw dT v_fam.1 a_fam v_fam.2.2, wA dT a_acts (pim a_actsfam v_actsfam.2.1) v_acts, wRw dT v_actsfam.1 a_actsfam v_actsfam.2.2]) (fun u : (Nat → Nat → Nat) => (∀ k, k < v_actsfam.1 → u k = a_actsfam k)) (fun u : (Nat → Nat → Nat) => [wH dT a h_tape h_reader h_friends (a_dusk 0) (a_fam 0 0) (a_coming 0) (a_acts 0) h_seen h_pairs h_trials h_imageNow h_imageActs h_imageSeen res.2.1, wC dT a_coming (a_dusk 0) (a_fam 0 0) (a_known 0) (pim a_fam res.2.2.2.1.2.1) res.2.2.1, wD dT a_dusk (a_dpicks 0) (a_dkeeps 0) v_dusk, wR dT a_dpicks v_dpicks, wR dT a_dkeeps v_dkeeps, wK dT a_known v_known, wRw dT res.2.2.2.1.1 a_fam res.2.2.2.1.2.2, wA dT a_acts (pim u res.2.2.2.2.2.2.1) res.2.2.2.2.1, wRw dT res.2.2.2.2.2.1 u res.2.2.2.2.2.2.2]) res.1 (8 * ((B8 - v_actsfam.1))) (96 * ((B8 - v_actsfam.1))) := by
  refine CMi.of (by decide) (Nat.le_of_ble_eq_true rfl) rfl ?_
  intro p e s m args below meth c A C
  unfold f_X11_move at hf
  have hm8 : v_actsfam.1 ≤ v_actsfam.1 := Nat.le_refl _
  have hb8 : v_actsfam.1 - v_actsfam.1 ≤ B8 - v_actsfam.1 := by omega
  have hg8 : ∀ k, k < v_actsfam.1 → a_actsfam k = a_actsfam k := fun _ _ => rfl
  refine wa_widen (k := (8 * ((v_actsfam.1 - v_actsfam.1)))) (n := (96 * ((v_actsfam.1 - v_actsfam.1)))) (Nat.zero_le _) (Nat.zero_le _) ?_
  refine wa_aload_n C 0 1 dX11_move_0 rfl rfl ?_
  refine wa_iload_n C 1 2 dX11_move_1 rfl rfl ?_
  obtain ⟨q1, hq1, hf⟩ := bind_ex hf
  refine wa_callVv (b1 := 0) (q1 := 0) (ci := 11) (ws' := [wH dT a h_tape h_reader h_friends (a_dusk 0) (a_fam 0 0) (a_coming 0) (a_acts 0) h_seen h_pairs h_trials h_imageNow h_imageActs h_imageSeen v, wC dT a_coming (a_dusk 0) (a_fam 0 0) (a_known 0) (pim a_fam v_fam.2.1) v_coming, wD dT a_dusk (a_dpicks 0) (a_dkeeps 0) v_dusk, wR dT a_dpicks v_dpicks, wR dT a_dkeeps v_dkeeps, wK dT a_known v_known, wRw dT v_fam.1 a_fam v_fam.2.2, wA dT a_acts (pim a_actsfam v_actsfam.2.1) v_acts, wRw dT v_actsfam.1 a_actsfam v_actsfam.2.2]) (As := [.int p0]) C 5 dX11_move_2 rfl kv_X11_193 (c_X11_needPerson hq1) ⟨rfl, rfl⟩ ⟨Nat.le_of_ble_eq_true rfl, Nat.le_of_ble_eq_true rfl⟩ rfl rfl rfl [0, 6] [1, 2, 3, 4, 5, 7, 8] [7, 0, 1, 2, 3, 4, 8, 5, 6] rfl rfl rfl rfl (by decide) rfl rfl rfl rfl ⟨by show (8 * ((v_actsfam.1 - v_actsfam.1))) ≤ 8 * ((B8 - v_actsfam.1)); omega, by show (96 * ((v_actsfam.1 - v_actsfam.1))) ≤ 96 * ((B8 - v_actsfam.1)); omega⟩ (Nat.le_of_ble_eq_true rfl) ?_
  refine wa_aload_n C 0 6 dX11_move_5 rfl rfl ?_
  refine wa_iload_n C 2 7 dX11_move_6 rfl rfl ?_
  obtain ⟨q3, hq3, hf⟩ := bind_ex hf
  refine wa_callVv (b1 := 0) (q1 := 0) (ci := 11) (ws' := [wH dT a h_tape h_reader h_friends (a_dusk 0) (a_fam 0 0) (a_coming 0) (a_acts 0) h_seen h_pairs h_trials h_imageNow h_imageActs h_imageSeen v, wC dT a_coming (a_dusk 0) (a_fam 0 0) (a_known 0) (pim a_fam v_fam.2.1) v_coming, wD dT a_dusk (a_dpicks 0) (a_dkeeps 0) v_dusk, wR dT a_dpicks v_dpicks, wR dT a_dkeeps v_dkeeps, wK dT a_known v_known, wRw dT v_fam.1 a_fam v_fam.2.2, wA dT a_acts (pim a_actsfam v_actsfam.2.1) v_acts, wRw dT v_actsfam.1 a_actsfam v_actsfam.2.2]) (As := [.int p1]) C 10 dX11_move_7 rfl kv_X11_225 (c_X11_needHouse hq3) ⟨rfl, rfl⟩ ⟨Nat.le_of_ble_eq_true rfl, Nat.le_of_ble_eq_true rfl⟩ rfl rfl rfl [0, 6] [1, 2, 3, 4, 5, 7, 8] [7, 0, 1, 2, 3, 4, 8, 5, 6] rfl rfl rfl rfl (by decide) rfl rfl rfl rfl ⟨by show (8 * ((v_actsfam.1 - v_actsfam.1))) ≤ 8 * ((B8 - v_actsfam.1)); omega, by show (96 * ((v_actsfam.1 - v_actsfam.1))) ≤ 96 * ((B8 - v_actsfam.1)); omega⟩ (Nat.le_of_ble_eq_true rfl) ?_
  refine wa_aload_n C 0 11 dX11_move_10 rfl rfl ?_
  refine wa_get C 14 0 0 7 dX11_move_11 rfl iX11 q364 rfl (Nat.le_of_ble_eq_true rfl) rfl rfl rfl ?_
  obtain ⟨g5, hf⟩ := grd_ex hf
  refine wa_openF 6 0 (of_decide_eq_true g5) List.not_mem_nil rfl ?_
  refine wa_get C 17 9 0 4 dX11_move_14 rfl iX10 q76 rfl (Nat.le_of_ble_eq_true rfl) rfl rfl rfl ?_
  refine wa_closeR (ws := [wH dT a h_tape h_reader h_friends (a_dusk 0) (a_fam 0 0) (a_coming 0) (a_acts 0) h_seen h_pairs h_trials h_imageNow h_imageActs h_imageSeen v, wC dT a_coming (a_dusk 0) (a_fam 0 0) (a_known 0) (pim a_fam v_fam.2.1) v_coming, wD dT a_dusk (a_dpicks 0) (a_dkeeps 0) v_dusk, wR dT a_dpicks v_dpicks, wR dT a_dkeeps v_dkeeps, wK dT a_known v_known, wRm dT v_fam.1 [0] a_fam v_fam.2.2, wA dT a_acts (pim a_actsfam v_actsfam.2.1) v_acts, wRw dT v_actsfam.1 a_actsfam v_actsfam.2.2]) (ws' := [wH dT a h_tape h_reader h_friends (a_dusk 0) (a_fam 0 0) (a_coming 0) (a_acts 0) h_seen h_pairs h_trials h_imageNow h_imageActs h_imageSeen v, wC dT a_coming (a_dusk 0) (a_fam 0 0) (a_known 0) (pim a_fam v_fam.2.1) v_coming, wD dT a_dusk (a_dpicks 0) (a_dkeeps 0) v_dusk, wR dT a_dpicks v_dpicks, wR dT a_dkeeps v_dkeeps, wK dT a_known v_known, wRw dT v_fam.1 a_fam v_fam.2.2, wA dT a_acts (pim a_actsfam v_actsfam.2.1) v_acts, wRw dT v_actsfam.1 a_actsfam v_actsfam.2.2]) 6 0 (of_decide_eq_true g5) List.not_mem_nil rfl rfl ?_
  refine wa_iload_n C 1 18 dX11_move_17 rfl rfl ?_
  obtain ⟨g6, hf⟩ := grd_ex hf
  obtain ⟨g7, hf⟩ := grd_ex hf
  refine wa_openF 6 0 (of_decide_eq_true g6) List.not_mem_nil rfl ?_
  refine wa_iald C 19 9 2 dX11_move_18 rfl rfl rfl (vi_in g7) ?_
  refine wa_closeR (ws := [wH dT a h_tape h_reader h_friends (a_dusk 0) (a_fam 0 0) (a_coming 0) (a_acts 0) h_seen h_pairs h_trials h_imageNow h_imageActs h_imageSeen v, wC dT a_coming (a_dusk 0) (a_fam 0 0) (a_known 0) (pim a_fam v_fam.2.1) v_coming, wD dT a_dusk (a_dpicks 0) (a_dkeeps 0) v_dusk, wR dT a_dpicks v_dpicks, wR dT a_dkeeps v_dkeeps, wK dT a_known v_known, wRm dT v_fam.1 [0] a_fam v_fam.2.2, wA dT a_acts (pim a_actsfam v_actsfam.2.1) v_acts, wRw dT v_actsfam.1 a_actsfam v_actsfam.2.2]) (ws' := [wH dT a h_tape h_reader h_friends (a_dusk 0) (a_fam 0 0) (a_coming 0) (a_acts 0) h_seen h_pairs h_trials h_imageNow h_imageActs h_imageSeen v, wC dT a_coming (a_dusk 0) (a_fam 0 0) (a_known 0) (pim a_fam v_fam.2.1) v_coming, wD dT a_dusk (a_dpicks 0) (a_dkeeps 0) v_dusk, wR dT a_dpicks v_dpicks, wR dT a_dkeeps v_dkeeps, wK dT a_known v_known, wRw dT v_fam.1 a_fam v_fam.2.2, wA dT a_acts (pim a_actsfam v_actsfam.2.1) v_acts, wRw dT v_actsfam.1 a_actsfam v_actsfam.2.2]) 6 0 (of_decide_eq_true g6) List.not_mem_nil rfl rfl ?_
  obtain ⟨x8, ex8, hf⟩ := bnd_ex hf
  refine wa_topi ex8 ?_
  refine wa_istore_n (lv' := [(0, .ref (a 0)), (1, .int p0), (2, .int p1), (3, .int x8)]) C [1, 2, 3, 0] 20 dX11_move_19 rfl (Nat.le_of_ble_eq_true rfl) rfl ?_
  refine wa_iload_n C 3 21 dX11_move_20 rfl rfl ?_
  refine wa_iload_n C 2 22 dX11_move_21 rfl rfl ?_
  refine wa_icmp_ne C 31 25 dX11_move_22 rfl rfl (fun c9 => ?_) (fun c9 => ?_)
  · replace hf := ite_f hf c9
    refine wa_aload_n C 0 32 dX11_move_31 rfl rfl ?_
    refine wa_get C 35 0 0 9 dX11_move_32 rfl iX11 q366 rfl (Nat.le_of_ble_eq_true rfl) rfl rfl rfl ?_
    refine wa_aload_n C 0 36 dX11_move_35 rfl rfl ?_
    refine wa_get C 39 0 0 7 dX11_move_36 rfl iX11 q364 rfl (Nat.le_of_ble_eq_true rfl) rfl rfl rfl ?_
    obtain ⟨g10, hf⟩ := grd_ex hf
    replace g10 := of_decide_eq_true g10
    refine wa_openF 6 0 g10 List.not_mem_nil rfl ?_
    obtain ⟨q11, hq11, hf⟩ := bind_ex hf
    obtain ⟨g12, hf⟩ := grd_ex hf
    replace g12 := of_decide_eq_true g12
    refine wa_callMv (b1 := 7) (q1 := 0) (ci := 0) (As := [.ref (a_fam 0 0)]) C (fun (ru13 : (Nat → Nat → Nat)) => [wH dT a h_tape h_reader h_friends (a_dusk 0) (a_fam 0 0) (a_coming 0) (a_acts 0) h_seen h_pairs h_trials h_imageNow h_imageActs h_imageSeen v, wC dT a_coming (a_dusk 0) (a_fam 0 0) (a_known 0) (pim a_fam v_fam.2.1) v_coming, wD dT a_dusk (a_dpicks 0) (a_dkeeps 0) v_dusk, wR dT a_dpicks v_dpicks, wR dT a_dkeeps v_dkeeps, wK dT a_known v_known, wRm dT v_fam.1 [0] a_fam v_fam.2.2, wA dT a_acts (pim ru13 q11.2.2.1) q11.1, wRw dT q11.2.1 ru13 q11.2.2.2, wV dT (a_fam 0) (v_fam.2.2 0)]) 42 dX11_move_39 rfl kv_X11_249 (c_X0_keep hq11) ⟨rfl, rfl⟩ ⟨Nat.le_of_ble_eq_true rfl, Nat.le_of_ble_eq_true rfl⟩ rfl rfl rfl [7, 8, 9] [0, 1, 2, 3, 4, 5, 6] [0, 1, 2, 3, 4, 5, 6, 7, 8, 9] rfl rfl rfl rfl (by decide) rfl (fun _ => rfl) rfl rfl ⟨by show (8 * ((v_actsfam.1 - v_actsfam.1))) + 8 * ((B8 - v_actsfam.1)) ≤ 8 * ((B8 - v_actsfam.1)); omega, by show (96 * ((v_actsfam.1 - v_actsfam.1))) + 96 * ((B8 - v_actsfam.1)) ≤ 96 * ((B8 - v_actsfam.1)); omega⟩ (Nat.le_of_ble_eq_true rfl) (fun ru13 hu => ?_)
    refine wa_widen (k := (8 * ((B8 - v_actsfam.1)))) (n := (96 * ((B8 - v_actsfam.1)))) (by omega) (by omega) ?_
    replace hg8 : ∀ k, k < v_actsfam.1 → ru13 k = a_actsfam k := fun k hk => (hu k (by omega)).trans (hg8 k hk)
    replace hm8 : v_actsfam.1 ≤ q11.2.1 := by omega
    replace hb8 : q11.2.1 - v_actsfam.1 ≤ B8 - v_actsfam.1 := by omega
    refine wa_closeR (ws := [wH dT a h_tape h_reader h_friends (a_dusk 0) (a_fam 0 0) (a_coming 0) (a_acts 0) h_seen h_pairs h_trials h_imageNow h_imageActs h_imageSeen v, wC dT a_coming (a_dusk 0) (a_fam 0 0) (a_known 0) (pim a_fam v_fam.2.1) v_coming, wD dT a_dusk (a_dpicks 0) (a_dkeeps 0) v_dusk, wR dT a_dpicks v_dpicks, wR dT a_dkeeps v_dkeeps, wK dT a_known v_known, wRm dT v_fam.1 [0] a_fam v_fam.2.2, wA dT a_acts (pim ru13 q11.2.2.1) q11.1, wRw dT q11.2.1 ru13 q11.2.2.2]) (ws' := [wH dT a h_tape h_reader h_friends (a_dusk 0) (a_fam 0 0) (a_coming 0) (a_acts 0) h_seen h_pairs h_trials h_imageNow h_imageActs h_imageSeen v, wC dT a_coming (a_dusk 0) (a_fam 0 0) (a_known 0) (pim a_fam v_fam.2.1) v_coming, wD dT a_dusk (a_dpicks 0) (a_dkeeps 0) v_dusk, wR dT a_dpicks v_dpicks, wR dT a_dkeeps v_dkeeps, wK dT a_known v_known, wRm dT v_fam.1 [] a_fam v_fam.2.2, wA dT a_acts (pim ru13 q11.2.2.1) q11.1, wRw dT q11.2.1 ru13 q11.2.2.2]) 6 0 g10 List.not_mem_nil rfl rfl ?_
    refine wa_ws (ws' := [wH dT a h_tape h_reader h_friends (a_dusk 0) (a_fam 0 0) (a_coming 0) (a_acts 0) h_seen h_pairs h_trials h_imageNow h_imageActs h_imageSeen v, wC dT a_coming (a_dusk 0) (a_fam 0 0) (a_known 0) (pim a_fam v_fam.2.1) v_coming, wD dT a_dusk (a_dpicks 0) (a_dkeeps 0) v_dusk, wR dT a_dpicks v_dpicks, wR dT a_dkeeps v_dkeeps, wK dT a_known v_known, wRw dT v_fam.1 a_fam v_fam.2.2, wA dT a_acts (pim ru13 q11.2.2.1) q11.1, wRw dT q11.2.1 ru13 q11.2.2.2]) rfl ?_
    refine wa_aload_n C 0 43 dX11_move_42 rfl rfl ?_
    refine wa_get C 46 0 0 7 dX11_move_43 rfl iX11 q364 rfl (Nat.le_of_ble_eq_true rfl) rfl rfl rfl ?_
    refine wa_iload_n C 1 47 dX11_move_46 rfl rfl ?_
    refine wa_iload_n C 2 48 dX11_move_47 rfl rfl ?_
    obtain ⟨g14, hf⟩ := grd_ex hf
    replace g14 := of_decide_eq_true g14
    refine wa_openF 6 0 g14 List.not_mem_nil rfl ?_
    obtain ⟨q15, hq15, hf⟩ := bind_ex hf
    obtain ⟨y17, ey17, hf⟩ := bnd_ex hf
    refine wa_callVv (b1 := 9) (q1 := 0) (ci := 10) (ws' := [wH dT a h_tape h_reader h_friends (a_dusk 0) (a_fam 0 0) (a_coming 0) (a_acts 0) h_seen h_pairs h_trials h_imageNow h_imageActs h_imageSeen v, wC dT a_coming (a_dusk 0) (a_fam 0 0) (a_known 0) (pim a_fam v_fam.2.1) v_coming, wD dT a_dusk (a_dpicks 0) (a_dkeeps 0) v_dusk, wR dT a_dpicks v_dpicks, wR dT a_dkeeps v_dkeeps, wK dT a_known v_known, wRm dT v_fam.1 [0] a_fam v_fam.2.2, wA dT a_acts (pim ru13 q11.2.2.1) q11.1, wRw dT q11.2.1 ru13 q11.2.2.2, wV dT (a_fam 0) q15]) (As := [.int p0, .int p1]) C 51 dX11_move_48 rfl kv_X11_256 (c_X10_moveTo hq15) ⟨rfl, rfl⟩ ⟨Nat.le_of_ble_eq_true rfl, Nat.le_of_ble_eq_true rfl⟩ rfl rfl rfl [9] [0, 1, 2, 3, 4, 5, 6, 7, 8] [0, 1, 2, 3, 4, 5, 6, 7, 8, 9] rfl rfl rfl rfl (by decide) rfl rfl rfl rfl ⟨by show (8 * ((B8 - v_actsfam.1))) ≤ 8 * ((B8 - v_actsfam.1)); omega, by show (96 * ((B8 - v_actsfam.1))) ≤ 96 * ((B8 - v_actsfam.1)); omega⟩ (Nat.le_of_ble_eq_true rfl) ?_
    refine wa_closeF (ws := [wH dT a h_tape h_reader h_friends (a_dusk 0) (a_fam 0 0) (a_coming 0) (a_acts 0) h_seen h_pairs h_trials h_imageNow h_imageActs h_imageSeen v, wC dT a_coming (a_dusk 0) (a_fam 0 0) (a_known 0) (pim a_fam v_fam.2.1) v_coming, wD dT a_dusk (a_dpicks 0) (a_dkeeps 0) v_dusk, wR dT a_dpicks v_dpicks, wR dT a_dkeeps v_dkeeps, wK dT a_known v_known, wRm dT v_fam.1 [0] a_fam v_fam.2.2, wA dT a_acts (pim ru13 q11.2.2.1) q11.1, wRw dT q11.2.1 ru13 q11.2.2.2]) (ws' := [wH dT a h_tape h_reader h_friends (a_dusk 0) (a_fam 0 0) (a_coming 0) (a_acts 0) h_seen h_pairs h_trials h_imageNow h_imageActs h_imageSeen v, wC dT a_coming (a_dusk 0) (a_fam 0 0) (a_known 0) (pim a_fam v_fam.2.1) v_coming, wD dT a_dusk (a_dpicks 0) (a_dkeeps 0) v_dusk, wR dT a_dpicks v_dpicks, wR dT a_dkeeps v_dkeeps, wK dT a_known v_known, wRm dT v_fam.1 [] a_fam (sV v_fam.2.2 0 q15), wA dT a_acts (pim ru13 q11.2.2.1) q11.1, wRw dT q11.2.1 ru13 q11.2.2.2]) 6 0 g14 List.not_mem_nil rfl rfl rfl ?_
    refine wa_ws (ws' := [wH dT a h_tape h_reader h_friends (a_dusk 0) (a_fam 0 0) (a_coming 0) (a_acts 0) h_seen h_pairs h_trials h_imageNow h_imageActs h_imageSeen v, wC dT a_coming (a_dusk 0) (a_fam 0 0) (a_known 0) (pim a_fam y17.2.1) v_coming, wD dT a_dusk (a_dpicks 0) (a_dkeeps 0) v_dusk, wR dT a_dpicks v_dpicks, wR dT a_dkeeps v_dkeeps, wK dT a_known v_known, wRw dT y17.1 a_fam y17.2.2, wA dT a_acts (pim ru13 q11.2.2.1) q11.1, wRw dT q11.2.1 ru13 q11.2.2.2]) (by rw [ey17]) ?_
    refine wa_aload_n C 0 52 dX11_move_51 rfl rfl ?_
    refine wa_get C 55 0 0 8 dX11_move_52 rfl iX11 q365 rfl (Nat.le_of_ble_eq_true rfl) rfl rfl rfl ?_
    obtain ⟨q18, hq18, hf⟩ := bind_ex hf
    refine wa_callVv (b1 := 1) (q1 := 0) (ci := 1) (ws' := [wH dT a h_tape h_reader h_friends (a_dusk 0) (a_fam 0 0) (a_coming 0) (a_acts 0) h_seen h_pairs h_trials h_imageNow h_imageActs h_imageSeen v, wC dT a_coming (a_dusk 0) (a_fam 0 0) (a_known 0) (pim a_fam y17.2.1) q18, wD dT a_dusk (a_dpicks 0) (a_dkeeps 0) v_dusk, wR dT a_dpicks v_dpicks, wR dT a_dkeeps v_dkeeps, wK dT a_known v_known, wRw dT y17.1 a_fam y17.2.2, wA dT a_acts (pim ru13 q11.2.2.1) q11.1, wRw dT q11.2.1 ru13 q11.2.2.2]) (As := []) C 58 dX11_move_55 rfl kv_X11_148 (c_X1_changed hq18) ⟨rfl, rfl⟩ ⟨Nat.le_of_ble_eq_true rfl, Nat.le_of_ble_eq_true rfl⟩ rfl rfl rfl [1, 2, 3, 4, 5, 6] [0, 7, 8] [0, 3, 4, 5, 6, 7, 8, 1, 2] rfl rfl rfl rfl (by decide) rfl rfl rfl rfl ⟨by show (8 * ((B8 - v_actsfam.1))) ≤ 8 * ((B8 - v_actsfam.1)); omega, by show (96 * ((B8 - v_actsfam.1))) ≤ 96 * ((B8 - v_actsfam.1)); omega⟩ (Nat.le_of_ble_eq_true rfl) ?_
    refine wa_iload_n C 3 59 dX11_move_58 rfl rfl ?_
    cases hf
    exact wa_irm C (ru13) dX11_move_59 hg8 rfl rfl (by show (8 * ((B8 - v_actsfam.1))) ≤ 8 * ((B8 - v_actsfam.1)); omega) (by show (96 * ((B8 - v_actsfam.1))) ≤ 96 * ((B8 - v_actsfam.1)); omega)
  · replace hf := ite_t hf c9
    refine wa_aload_n C 0 26 dX11_move_25 rfl rfl ?_
    refine wa_iconst (v := 1) C 27 dX11_move_26 rfl rfl ?_
    obtain ⟨q20, hq20, hf⟩ := bind_ex hf
    refine wa_callVi (b1 := 0) (q1 := 0) (ci := 11) (ws' := [wH dT a h_tape h_reader h_friends (a_dusk 0) (a_fam 0 0) (a_coming 0) (a_acts 0) h_seen h_pairs h_trials h_imageNow h_imageActs h_imageSeen q20.2, wC dT a_coming (a_dusk 0) (a_fam 0 0) (a_known 0) (pim a_fam v_fam.2.1) v_coming, wD dT a_dusk (a_dpicks 0) (a_dkeeps 0) v_dusk, wR dT a_dpicks v_dpicks, wR dT a_dkeeps v_dkeeps, wK dT a_known v_known, wRw dT v_fam.1 a_fam v_fam.2.2, wA dT a_acts (pim a_actsfam v_actsfam.2.1) v_acts, wRw dT v_actsfam.1 a_actsfam v_actsfam.2.2]) (As := [.int (1 : Int32)]) C 30 dX11_move_27 rfl kv_X11_246 (c_X11_refuse hq20) ⟨rfl, rfl⟩ ⟨Nat.le_of_ble_eq_true rfl, Nat.le_of_ble_eq_true rfl⟩ rfl rfl rfl [0] [1, 2, 3, 4, 5, 6, 7, 8] [8, 0, 1, 2, 3, 4, 5, 6, 7] rfl rfl rfl rfl (by decide) rfl rfl rfl rfl ⟨by show (8 * ((v_actsfam.1 - v_actsfam.1))) ≤ 8 * ((B8 - v_actsfam.1)); omega, by show (96 * ((v_actsfam.1 - v_actsfam.1))) ≤ 96 * ((B8 - v_actsfam.1)); omega⟩ (Nat.le_of_ble_eq_true rfl) ?_
    cases hf
    exact wa_irm C (a_actsfam) dX11_move_30 hg8 rfl rfl (by show (8 * ((v_actsfam.1 - v_actsfam.1))) ≤ 8 * ((B8 - v_actsfam.1)); omega) (by show (96 * ((v_actsfam.1 - v_actsfam.1))) ≤ 96 * ((B8 - v_actsfam.1)); omega)
